/-! the law: the calls that only read, class and reference side by side -/
theorem up_p {β : Type} {b : β} {f : Nat → Nat → Int} {i k : Nat} {v : Int} : (pvUp f i k v, b).1 i k = v := by
  simp [pvUp]
theorem up_q {β γ : Type} {a : β} {c : γ} {f : Nat → Nat → Int} {i k : Nat} {v : Int} : (a, pvUp f i k v, c).2.1 i k = v := by
  simp [pvUp]
theorem up_d {β γ : Type} {a : β} {c : γ} {f : Nat → Nat → UInt64} {i k : Nat} {v : UInt64} : (a, c, pvUp f i k v).2.2 i k = v := by
  simp [pvUp]
theorem up_e {α : Type} {f : Nat → Nat → α} {i k : Nat} {v : α} : pvUp f i k v i k = v := by
  simp [pvUp]
theorem rl_of {v : Int} (h : pvR v) : pvRL v := ⟨by have := h.1; omega, by have := h.2; omega⟩
theorem rl_ru {A : Aut} (h : WfA A) {n : Int} (hn : 0 ≤ n ∧ n ≤ 10) {d l : Nat → Int} {e : Int} : pvRL (ruF A d l n.toNat e) := by
  have := ruF_r h d l (n := n.toNat) (by omega) e
  exact ⟨by omega, by omega⟩
theorem rl_wd {A : Aut} {D e : Nat} {x : Int} (hD : D ≤ 5) (he : e ≤ 10) : pvRL (wdF A D e x) := by
  have := wd_10 A hD he x
  exact ⟨by omega, by omega⟩
theorem hf_0_0 : hfF [0] 0 = 1 := by decide
theorem hf_01_0 : hfF [0, 1] 0 = 1 := by decide
theorem hf_01_1 : hfF [0, 1] 1 = 2 := by decide
theorem hf_03_0 : hfF [0, 3] 0 = 1 := by decide
theorem hf_03_3 : hfF [0, 3] 3 = 2 := by decide
theorem hf_012_0 : hfF [0, 1, 2] 0 = 1 := by decide
theorem hf_012_1 : hfF [0, 1, 2] 1 = 2 := by decide
theorem hf_012_2 : hfF [0, 1, 2] 2 = 3 := by decide
theorem hf_2_2 : hfF [2] 2 = 1 := by decide
theorem avD_nn {A : Aut} (h : WfA A) : vf_n32 (avD (baK A (dsF A).length) (3 * (dsF A).length)) := by
  have h1 := dsF_0 A
  have h2 := okL_len (dsF_ok h)
  exact avD_n (by omega)
set_option maxRecDepth 100000 in
set_option maxHeartbeats 4000000 in
theorem lc_transitionCount {z : pvM} {s : Int} (h : lwI z) {Q : pvO → pvM → Prop} (H : ∀ (k : Int) (z1 : pvM), (∀ Q2 : pvO → pvM → Prop, (∀ b z2, z2.1 39 8 = k → (k = 0 → z2.2.1 58 0 = b ∧ pvRL b) → lwI z2 → Q2 (.inl (some (vI b))) z2) → C_X10_transitionCount [vR 39, vI s] z1 Q2) → Q (.inl (some (vI k))) z1) : C_L_transitionCount [vR 0, vI s, vR 58] z Q := by
  have ha := h.1
  have hW := lw_W h
  have hwc := lw_wc h
  have hwd := lw_wd h
  have h7 : z.1 20 4 = z.1 39 7 := h.2.2.1.2.1
  have hag := lw_ag h
  rw [h7] at hag
  have hn := hwd.1
  have hpz : pzF z := h.2.2.2.2.2.1
  have hqu : ∃ L, quF z L := h.2.2.2.2.2.2.1
  have hem : psS z 13 emA := h.2.2.2.2.2.2.2.1
  have hsm : smP z := h.2.2.2.2.2.2.2.2
  by_cases hs : 0 ≤ s ∧ s ≤ 1
  · skip
    simp only [C_L_transitionCount, C_X9_transitionCount, wrI, if_true, if_false, reduceIte, Int.reduceEq, List.mem_cons, List.not_mem_nil, or_false, true_and, and_true, hf_0_0, hf_01_0, hf_01_1, hf_03_0, hf_03_3, hf_12_1, hf_12_2, hf_012_0, hf_012_1, hf_012_2, hf_2_2, (ha s hs).1]
    (repeat' first | with_reducible apply And.intro | with_reducible intro _)
    all_goals first
      | (with_reducible exact rfl)
      | omega
      | assumption
      | contradiction
      | (rename trF _ _ _ ∧ _ => q9; exact absurd q9.1.1 hs)
      | (with_reducible exact Or.inl trivial)
      | (with_reducible exact Or.inr trivial)
      | (exact (ha _ (by assumption)).2)
      | (exact (ha _ hs).2)
      | (with_reducible exact ⟨hpz, hwc⟩)
      | (with_reducible exact hqu)
      | (with_reducible exact shD_n (by omega))
      | (with_reducible exact avD_nn (by first | exact hW _ (by assumption) | exact hW _ hs))
      | (exact hnn)
      | (refine H _ _ (fun Q2 f => ?_)
         simp only [C_X10_transitionCount, true_and]
         (repeat' first | with_reducible apply And.intro | with_reducible intro _)
         all_goals first
           | (with_reducible exact rfl)
           | omega
           | assumption
           | contradiction
           | (rename trF _ _ _ ∧ _ => q9; exact absurd q9.1.1 hs)
           | (with_reducible exact Or.inl trivial)
           | (with_reducible exact Or.inr trivial)
           | (exact hW _ (by assumption))
           | (exact hW)
           | (exact f _ _ up_p (fun _ => ⟨up_q, rl_of (by assumption)⟩) (lwI_u h))
           | (exact f _ _ up_p (fun q => absurd q (by decide)) (lwI_u h)))
  · skip
    simp only [C_L_transitionCount, C_X9_transitionCount, wrI, if_true, if_false, reduceIte, Int.reduceEq, List.mem_cons, List.not_mem_nil, or_false, true_and, and_true, hf_0_0, hf_01_0, hf_01_1, hf_03_0, hf_03_3, hf_12_1, hf_12_2, hf_012_0, hf_012_1, hf_012_2, hf_2_2]
    (repeat' first | with_reducible apply And.intro | with_reducible intro _)
    all_goals first
      | (with_reducible exact rfl)
      | omega
      | assumption
      | contradiction
      | (rename trF _ _ _ ∧ _ => q9; exact absurd q9.1.1 hs)
      | (with_reducible exact Or.inl trivial)
      | (with_reducible exact Or.inr trivial)
      | (exact (ha _ (by assumption)).2)
      | (exact (ha _ hs).2)
      | (with_reducible exact ⟨hpz, hwc⟩)
      | (with_reducible exact hqu)
      | (with_reducible exact shD_n (by omega))
      | (with_reducible exact avD_nn (by first | exact hW _ (by assumption) | exact hW _ hs))
      | (exact hnn)
      | (refine H _ _ (fun Q2 f => ?_)
         simp only [C_X10_transitionCount, true_and]
         (repeat' first | with_reducible apply And.intro | with_reducible intro _)
         all_goals first
           | (with_reducible exact rfl)
           | omega
           | assumption
           | contradiction
           | (rename trF _ _ _ ∧ _ => q9; exact absurd q9.1.1 hs)
           | (with_reducible exact Or.inl trivial)
           | (with_reducible exact Or.inr trivial)
           | (exact hW _ (by assumption))
           | (exact hW)
           | (exact f _ _ up_p (fun _ => ⟨up_q, rl_of (by assumption)⟩) (lwI_u h))
           | (exact f _ _ up_p (fun q => absurd q (by decide)) (lwI_u h)))
set_option maxRecDepth 100000 in
set_option maxHeartbeats 4000000 in
theorem lc_transition {z : pvM} {s t c : Int} (h : lwI z) {Q : pvO → pvM → Prop} (H : ∀ (k : Int) (z1 : pvM), (∀ Q2 : pvO → pvM → Prop, (∀ b z2, z2.1 39 8 = k → (k = 0 → z2.2.1 58 0 = b ∧ pvRL b) → lwI z2 → Q2 (.inl (some (vI b))) z2) → C_X10_transition [vR 39, vI s, vI t, vI c] z1 Q2) → Q (.inl (some (vI k))) z1) : C_L_transition [vR 0, vI s, vI t, vI c, vR 58] z Q := by
  have ha := h.1
  have hW := lw_W h
  have hwc := lw_wc h
  have hwd := lw_wd h
  have h7 : z.1 20 4 = z.1 39 7 := h.2.2.1.2.1
  have hag := lw_ag h
  rw [h7] at hag
  have hn := hwd.1
  have hpz : pzF z := h.2.2.2.2.2.1
  have hqu : ∃ L, quF z L := h.2.2.2.2.2.2.1
  have hem : psS z 13 emA := h.2.2.2.2.2.2.2.1
  have hsm : smP z := h.2.2.2.2.2.2.2.2
  by_cases c0 : trF (autR (z.1 40)) s t ∧ 0 ≤ c ∧ c ≤ 3
  · have hs := c0.1.1
    simp only [C_L_transition, C_X9_transition, wrI, if_true, if_false, reduceIte, Int.reduceEq, List.mem_cons, List.not_mem_nil, or_false, true_and, and_true, hf_0_0, hf_01_0, hf_01_1, hf_03_0, hf_03_3, hf_12_1, hf_12_2, hf_012_0, hf_012_1, hf_012_2, hf_2_2, lw_tr h, (ha s c0.1.1).1]
    (repeat' first | with_reducible apply And.intro | with_reducible intro _)
    all_goals first
      | (with_reducible exact rfl)
      | omega
      | assumption
      | contradiction
      | (rename trF _ _ _ ∧ _ => q9; exact absurd q9.1.1 hs)
      | (with_reducible exact Or.inl trivial)
      | (with_reducible exact Or.inr trivial)
      | (exact (ha _ (by assumption)).2)
      | (exact (ha _ hs).2)
      | (with_reducible exact ⟨hpz, hwc⟩)
      | (with_reducible exact hqu)
      | (with_reducible exact shD_n (by omega))
      | (with_reducible exact avD_nn (by first | exact hW _ (by assumption) | exact hW _ hs))
      | (exact hnn)
      | (refine H _ _ (fun Q2 f => ?_)
         simp only [C_X10_transition, true_and]
         (repeat' first | with_reducible apply And.intro | with_reducible intro _)
         all_goals first
           | (with_reducible exact rfl)
           | omega
           | assumption
           | contradiction
           | (rename trF _ _ _ ∧ _ => q9; exact absurd q9.1.1 hs)
           | (with_reducible exact Or.inl trivial)
           | (with_reducible exact Or.inr trivial)
           | (exact hW _ (by assumption))
           | (exact hW)
           | (exact f _ _ up_p (fun _ => ⟨up_q, rl_of (by assumption)⟩) (lwI_u h))
           | (exact f _ _ up_p (fun q => absurd q (by decide)) (lwI_u h)))
  · skip
    simp only [C_L_transition, C_X9_transition, wrI, if_true, if_false, reduceIte, Int.reduceEq, List.mem_cons, List.not_mem_nil, or_false, true_and, and_true, hf_0_0, hf_01_0, hf_01_1, hf_03_0, hf_03_3, hf_12_1, hf_12_2, hf_012_0, hf_012_1, hf_012_2, hf_2_2, lw_tr h]
    (repeat' first | with_reducible apply And.intro | with_reducible intro _)
    all_goals first
      | (with_reducible exact rfl)
      | omega
      | assumption
      | contradiction
      | (rename trF _ _ _ ∧ _ => q9; exact absurd q9.1.1 hs)
      | (with_reducible exact Or.inl trivial)
      | (with_reducible exact Or.inr trivial)
      | (exact (ha _ (by assumption)).2)
      | (exact (ha _ hs).2)
      | (with_reducible exact ⟨hpz, hwc⟩)
      | (with_reducible exact hqu)
      | (with_reducible exact shD_n (by omega))
      | (with_reducible exact avD_nn (by first | exact hW _ (by assumption) | exact hW _ hs))
      | (exact hnn)
      | (refine H _ _ (fun Q2 f => ?_)
         simp only [C_X10_transition, true_and]
         (repeat' first | with_reducible apply And.intro | with_reducible intro _)
         all_goals first
           | (with_reducible exact rfl)
           | omega
           | assumption
           | contradiction
           | (rename trF _ _ _ ∧ _ => q9; exact absurd q9.1.1 hs)
           | (with_reducible exact Or.inl trivial)
           | (with_reducible exact Or.inr trivial)
           | (exact hW _ (by assumption))
           | (exact hW)
           | (exact f _ _ up_p (fun _ => ⟨up_q, rl_of (by assumption)⟩) (lwI_u h))
           | (exact f _ _ up_p (fun q => absurd q (by decide)) (lwI_u h)))
set_option maxRecDepth 100000 in
set_option maxHeartbeats 4000000 in
theorem lc_constraint {z : pvM} {s t i c : Int} (h : lwI z) {Q : pvO → pvM → Prop} (H : ∀ (k : Int) (z1 : pvM), (∀ Q2 : pvO → pvM → Prop, (∀ b z2, z2.1 39 8 = k → (k = 0 → z2.2.1 58 0 = b ∧ pvRL b) → lwI z2 → Q2 (.inl (some (vI b))) z2) → C_X10_constraint [vR 39, vI s, vI t, vI i, vI c] z1 Q2) → Q (.inl (some (vI k))) z1) : C_L_constraint [vR 0, vI s, vI t, vI i, vI c, vR 58] z Q := by
  have ha := h.1
  have hW := lw_W h
  have hwc := lw_wc h
  have hwd := lw_wd h
  have h7 : z.1 20 4 = z.1 39 7 := h.2.2.1.2.1
  have hag := lw_ag h
  rw [h7] at hag
  have hn := hwd.1
  have hpz : pzF z := h.2.2.2.2.2.1
  have hqu : ∃ L, quF z L := h.2.2.2.2.2.2.1
  have hem : psS z 13 emA := h.2.2.2.2.2.2.2.1
  have hsm : smP z := h.2.2.2.2.2.2.2.2
  by_cases hs : 0 ≤ s ∧ s ≤ 1
  · skip
    simp only [C_L_constraint, C_X9_constraint, wrI, if_true, if_false, reduceIte, Int.reduceEq, List.mem_cons, List.not_mem_nil, or_false, true_and, and_true, hf_0_0, hf_01_0, hf_01_1, hf_03_0, hf_03_3, hf_12_1, hf_12_2, hf_012_0, hf_012_1, hf_012_2, hf_2_2, lw_tr h, (ha s hs).1]
    (repeat' first | with_reducible apply And.intro | with_reducible intro _)
    all_goals first
      | (with_reducible exact rfl)
      | omega
      | assumption
      | contradiction
      | (rename trF _ _ _ ∧ _ => q9; exact absurd q9.1.1 hs)
      | (with_reducible exact Or.inl trivial)
      | (with_reducible exact Or.inr trivial)
      | (exact (ha _ (by assumption)).2)
      | (exact (ha _ hs).2)
      | (with_reducible exact ⟨hpz, hwc⟩)
      | (with_reducible exact hqu)
      | (with_reducible exact shD_n (by omega))
      | (with_reducible exact avD_nn (by first | exact hW _ (by assumption) | exact hW _ hs))
      | (exact hnn)
      | (refine H _ _ (fun Q2 f => ?_)
         simp only [C_X10_constraint, true_and]
         (repeat' first | with_reducible apply And.intro | with_reducible intro _)
         all_goals first
           | (with_reducible exact rfl)
           | omega
           | assumption
           | contradiction
           | (rename trF _ _ _ ∧ _ => q9; exact absurd q9.1.1 hs)
           | (with_reducible exact Or.inl trivial)
           | (with_reducible exact Or.inr trivial)
           | (exact hW _ (by assumption))
           | (exact hW)
           | (exact f _ _ up_p (fun _ => ⟨up_q, rl_of (by assumption)⟩) (lwI_u h))
           | (exact f _ _ up_p (fun q => absurd q (by decide)) (lwI_u h)))
  · skip
    simp only [C_L_constraint, C_X9_constraint, wrI, if_true, if_false, reduceIte, Int.reduceEq, List.mem_cons, List.not_mem_nil, or_false, true_and, and_true, hf_0_0, hf_01_0, hf_01_1, hf_03_0, hf_03_3, hf_12_1, hf_12_2, hf_012_0, hf_012_1, hf_012_2, hf_2_2, lw_tr h]
    (repeat' first | with_reducible apply And.intro | with_reducible intro _)
    all_goals first
      | (with_reducible exact rfl)
      | omega
      | assumption
      | contradiction
      | (rename trF _ _ _ ∧ _ => q9; exact absurd q9.1.1 hs)
      | (with_reducible exact Or.inl trivial)
      | (with_reducible exact Or.inr trivial)
      | (exact (ha _ (by assumption)).2)
      | (exact (ha _ hs).2)
      | (with_reducible exact ⟨hpz, hwc⟩)
      | (with_reducible exact hqu)
      | (with_reducible exact shD_n (by omega))
      | (with_reducible exact avD_nn (by first | exact hW _ (by assumption) | exact hW _ hs))
      | (exact hnn)
      | (refine H _ _ (fun Q2 f => ?_)
         simp only [C_X10_constraint, true_and]
         (repeat' first | with_reducible apply And.intro | with_reducible intro _)
         all_goals first
           | (with_reducible exact rfl)
           | omega
           | assumption
           | contradiction
           | (rename trF _ _ _ ∧ _ => q9; exact absurd q9.1.1 hs)
           | (with_reducible exact Or.inl trivial)
           | (with_reducible exact Or.inr trivial)
           | (exact hW _ (by assumption))
           | (exact hW)
           | (exact f _ _ up_p (fun _ => ⟨up_q, rl_of (by assumption)⟩) (lwI_u h))
           | (exact f _ _ up_p (fun q => absurd q (by decide)) (lwI_u h)))
set_option maxRecDepth 100000 in
set_option maxHeartbeats 4000000 in
theorem lc_satisfyingValuations {z : pvM} {s t : Int} (h : lwI z) {Q : pvO → pvM → Prop} (H : ∀ (k : Int) (z1 : pvM), (∀ Q2 : pvO → pvM → Prop, (∀ b z2, z2.1 39 8 = k → (k = 0 → z2.2.1 58 0 = b ∧ pvRL b) → lwI z2 → Q2 (.inl (some (vI b))) z2) → C_X10_satisfyingValuations [vR 39, vI s, vI t] z1 Q2) → Q (.inl (some (vI k))) z1) : C_L_satisfyingValuations [vR 0, vI s, vI t, vR 58] z Q := by
  have ha := h.1
  have hW := lw_W h
  have hwc := lw_wc h
  have hwd := lw_wd h
  have h7 : z.1 20 4 = z.1 39 7 := h.2.2.1.2.1
  have hag := lw_ag h
  rw [h7] at hag
  have hn := hwd.1
  have hpz : pzF z := h.2.2.2.2.2.1
  have hqu : ∃ L, quF z L := h.2.2.2.2.2.2.1
  have hem : psS z 13 emA := h.2.2.2.2.2.2.2.1
  have hsm : smP z := h.2.2.2.2.2.2.2.2
  by_cases c0 : trF (autR (z.1 40)) s t
  · have hs := c0.1
    simp only [C_L_satisfyingValuations, C_X9_satisfyingValuations, wrI, if_true, if_false, reduceIte, Int.reduceEq, List.mem_cons, List.not_mem_nil, or_false, true_and, and_true, hf_0_0, hf_01_0, hf_01_1, hf_03_0, hf_03_3, hf_12_1, hf_12_2, hf_012_0, hf_012_1, hf_012_2, hf_2_2, lw_tr h, (ha s c0.1).1]
    (repeat' first | with_reducible apply And.intro | with_reducible intro _)
    all_goals first
      | (with_reducible exact rfl)
      | omega
      | assumption
      | contradiction
      | (rename trF _ _ _ ∧ _ => q9; exact absurd q9.1.1 hs)
      | (with_reducible exact Or.inl trivial)
      | (with_reducible exact Or.inr trivial)
      | (exact (ha _ (by assumption)).2)
      | (exact (ha _ hs).2)
      | (with_reducible exact ⟨hpz, hwc⟩)
      | (with_reducible exact hqu)
      | (with_reducible exact shD_n (by omega))
      | (with_reducible exact avD_nn (by first | exact hW _ (by assumption) | exact hW _ hs))
      | (exact hnn)
      | (refine H _ _ (fun Q2 f => ?_)
         simp only [C_X10_satisfyingValuations, true_and]
         (repeat' first | with_reducible apply And.intro | with_reducible intro _)
         all_goals first
           | (with_reducible exact rfl)
           | omega
           | assumption
           | contradiction
           | (rename trF _ _ _ ∧ _ => q9; exact absurd q9.1.1 hs)
           | (with_reducible exact Or.inl trivial)
           | (with_reducible exact Or.inr trivial)
           | (exact hW _ (by assumption))
           | (exact hW)
           | (exact f _ _ up_p (fun _ => ⟨up_q, rl_of (by assumption)⟩) (lwI_u h))
           | (exact f _ _ up_p (fun q => absurd q (by decide)) (lwI_u h)))
  · skip
    simp only [C_L_satisfyingValuations, C_X9_satisfyingValuations, wrI, if_true, if_false, reduceIte, Int.reduceEq, List.mem_cons, List.not_mem_nil, or_false, true_and, and_true, hf_0_0, hf_01_0, hf_01_1, hf_03_0, hf_03_3, hf_12_1, hf_12_2, hf_012_0, hf_012_1, hf_012_2, hf_2_2, lw_tr h]
    (repeat' first | with_reducible apply And.intro | with_reducible intro _)
    all_goals first
      | (with_reducible exact rfl)
      | omega
      | assumption
      | contradiction
      | (rename trF _ _ _ ∧ _ => q9; exact absurd q9.1.1 hs)
      | (with_reducible exact Or.inl trivial)
      | (with_reducible exact Or.inr trivial)
      | (exact (ha _ (by assumption)).2)
      | (exact (ha _ hs).2)
      | (with_reducible exact ⟨hpz, hwc⟩)
      | (with_reducible exact hqu)
      | (with_reducible exact shD_n (by omega))
      | (with_reducible exact avD_nn (by first | exact hW _ (by assumption) | exact hW _ hs))
      | (exact hnn)
      | (refine H _ _ (fun Q2 f => ?_)
         simp only [C_X10_satisfyingValuations, true_and]
         (repeat' first | with_reducible apply And.intro | with_reducible intro _)
         all_goals first
           | (with_reducible exact rfl)
           | omega
           | assumption
           | contradiction
           | (rename trF _ _ _ ∧ _ => q9; exact absurd q9.1.1 hs)
           | (with_reducible exact Or.inl trivial)
           | (with_reducible exact Or.inr trivial)
           | (exact hW _ (by assumption))
           | (exact hW)
           | (exact f _ _ up_p (fun _ => ⟨up_q, rl_of (by assumption)⟩) (lwI_u h))
           | (exact f _ _ up_p (fun q => absurd q (by decide)) (lwI_u h)))
set_option maxRecDepth 100000 in
set_option maxHeartbeats 4000000 in
theorem lc_event {z : pvM} {i c : Int} (h : lwI z) {Q : pvO → pvM → Prop} (H : ∀ (k : Int) (z1 : pvM), (∀ Q2 : pvO → pvM → Prop, (∀ b z2, z2.1 39 8 = k → (k = 0 → z2.2.1 58 0 = b ∧ pvRL b) → lwI z2 → Q2 (.inl (some (vI b))) z2) → C_X10_event [vR 39, vI i, vI c] z1 Q2) → Q (.inl (some (vI k))) z1) : C_L_event [vR 0, vI i, vI c, vR 58] z Q := by
  have ha := h.1
  have hW := lw_W h
  have hwc := lw_wc h
  have hwd := lw_wd h
  have h7 : z.1 20 4 = z.1 39 7 := h.2.2.1.2.1
  have hag := lw_ag h
  rw [h7] at hag
  have hn := hwd.1
  have hpz : pzF z := h.2.2.2.2.2.1
  have hqu : ∃ L, quF z L := h.2.2.2.2.2.2.1
  have hem : psS z 13 emA := h.2.2.2.2.2.2.2.1
  have hsm : smP z := h.2.2.2.2.2.2.2.2
  by_cases c0 : 0 ≤ i ∧ i < z.1 39 7
  · skip
    simp only [C_L_event, C_X9_event, wrI, if_true, if_false, reduceIte, Int.reduceEq, List.mem_cons, List.not_mem_nil, or_false, true_and, and_true, hf_0_0, hf_01_0, hf_01_1, hf_03_0, hf_03_3, hf_12_1, hf_12_2, hf_012_0, hf_012_1, hf_012_2, hf_2_2, h7, (hag i.toNat (by omega)).1, (hag i.toNat (by omega)).2]
    (repeat' first | with_reducible apply And.intro | with_reducible intro _)
    all_goals first
      | (with_reducible exact rfl)
      | omega
      | assumption
      | contradiction
      | (rename trF _ _ _ ∧ _ => q9; exact absurd q9.1.1 hs)
      | (with_reducible exact Or.inl trivial)
      | (with_reducible exact Or.inr trivial)
      | (exact (ha _ (by assumption)).2)
      | (exact (ha _ hs).2)
      | (with_reducible exact ⟨hpz, hwc⟩)
      | (with_reducible exact hqu)
      | (with_reducible exact shD_n (by omega))
      | (with_reducible exact avD_nn (by first | exact hW _ (by assumption) | exact hW _ hs))
      | (exact hnn)
      | (refine H _ _ (fun Q2 f => ?_)
         simp only [C_X10_event, true_and]
         (repeat' first | with_reducible apply And.intro | with_reducible intro _)
         all_goals first
           | (with_reducible exact rfl)
           | omega
           | assumption
           | contradiction
           | (rename trF _ _ _ ∧ _ => q9; exact absurd q9.1.1 hs)
           | (with_reducible exact Or.inl trivial)
           | (with_reducible exact Or.inr trivial)
           | (exact hW _ (by assumption))
           | (exact hW)
           | (exact f _ _ up_p (fun _ => ⟨up_q, rl_of (by assumption)⟩) (lwI_u h))
           | (exact f _ _ up_p (fun q => absurd q (by decide)) (lwI_u h)))
  · skip
    simp only [C_L_event, C_X9_event, wrI, if_true, if_false, reduceIte, Int.reduceEq, List.mem_cons, List.not_mem_nil, or_false, true_and, and_true, hf_0_0, hf_01_0, hf_01_1, hf_03_0, hf_03_3, hf_12_1, hf_12_2, hf_012_0, hf_012_1, hf_012_2, hf_2_2, h7]
    (repeat' first | with_reducible apply And.intro | with_reducible intro _)
    all_goals first
      | (with_reducible exact rfl)
      | omega
      | assumption
      | contradiction
      | (rename trF _ _ _ ∧ _ => q9; exact absurd q9.1.1 hs)
      | (with_reducible exact Or.inl trivial)
      | (with_reducible exact Or.inr trivial)
      | (exact (ha _ (by assumption)).2)
      | (exact (ha _ hs).2)
      | (with_reducible exact ⟨hpz, hwc⟩)
      | (with_reducible exact hqu)
      | (with_reducible exact shD_n (by omega))
      | (with_reducible exact avD_nn (by first | exact hW _ (by assumption) | exact hW _ hs))
      | (exact hnn)
      | (refine H _ _ (fun Q2 f => ?_)
         simp only [C_X10_event, true_and]
         (repeat' first | with_reducible apply And.intro | with_reducible intro _)
         all_goals first
           | (with_reducible exact rfl)
           | omega
           | assumption
           | contradiction
           | (rename trF _ _ _ ∧ _ => q9; exact absurd q9.1.1 hs)
           | (with_reducible exact Or.inl trivial)
           | (with_reducible exact Or.inr trivial)
           | (exact hW _ (by assumption))
           | (exact hW)
           | (exact f _ _ up_p (fun _ => ⟨up_q, rl_of (by assumption)⟩) (lwI_u h))
           | (exact f _ _ up_p (fun q => absurd q (by decide)) (lwI_u h)))
set_option maxRecDepth 100000 in
set_option maxHeartbeats 4000000 in
theorem lc_valuationBefore {z : pvM} {i : Int} (h : lwI z) {Q : pvO → pvM → Prop} (H : ∀ (k : Int) (z1 : pvM), (∀ Q2 : pvO → pvM → Prop, (∀ b z2, z2.1 39 8 = k → (k = 0 → z2.2.1 58 0 = b ∧ pvRL b) → lwI z2 → Q2 (.inl (some (vI b))) z2) → C_X10_valuationBefore [vR 39, vI i] z1 Q2) → Q (.inl (some (vI k))) z1) : C_L_valuationBefore [vR 0, vI i, vR 58] z Q := by
  have ha := h.1
  have hW := lw_W h
  have hwc := lw_wc h
  have hwd := lw_wd h
  have h7 : z.1 20 4 = z.1 39 7 := h.2.2.1.2.1
  have hag := lw_ag h
  rw [h7] at hag
  have hn := hwd.1
  have hpz : pzF z := h.2.2.2.2.2.1
  have hqu : ∃ L, quF z L := h.2.2.2.2.2.2.1
  have hem : psS z 13 emA := h.2.2.2.2.2.2.2.1
  have hsm : smP z := h.2.2.2.2.2.2.2.2
  by_cases c0 : 0 ≤ i ∧ i < z.1 39 7
  · skip
    simp only [C_L_valuationBefore, C_X9_valuationBefore, wrI, if_true, if_false, reduceIte, Int.reduceEq, List.mem_cons, List.not_mem_nil, or_false, true_and, and_true, hf_0_0, hf_01_0, hf_01_1, hf_03_0, hf_03_3, hf_12_1, hf_12_2, hf_012_0, hf_012_1, hf_012_2, hf_2_2, h7, (hag i.toNat (by omega)).1, va_x hag i.toNat (by omega)]
    (repeat' first | with_reducible apply And.intro | with_reducible intro _)
    all_goals first
      | (with_reducible exact rfl)
      | omega
      | assumption
      | contradiction
      | (rename trF _ _ _ ∧ _ => q9; exact absurd q9.1.1 hs)
      | (with_reducible exact Or.inl trivial)
      | (with_reducible exact Or.inr trivial)
      | (exact (ha _ (by assumption)).2)
      | (exact (ha _ hs).2)
      | (with_reducible exact ⟨hpz, hwc⟩)
      | (with_reducible exact hqu)
      | (with_reducible exact shD_n (by omega))
      | (with_reducible exact avD_nn (by first | exact hW _ (by assumption) | exact hW _ hs))
      | (exact hnn)
      | (refine H _ _ (fun Q2 f => ?_)
         simp only [C_X10_valuationBefore, true_and]
         (repeat' first | with_reducible apply And.intro | with_reducible intro _)
         all_goals first
           | (with_reducible exact rfl)
           | omega
           | assumption
           | contradiction
           | (rename trF _ _ _ ∧ _ => q9; exact absurd q9.1.1 hs)
           | (with_reducible exact Or.inl trivial)
           | (with_reducible exact Or.inr trivial)
           | (exact hW _ (by assumption))
           | (exact hW)
           | (exact f _ _ up_p (fun _ => ⟨up_q, rl_of (by assumption)⟩) (lwI_u h))
           | (exact f _ _ up_p (fun q => absurd q (by decide)) (lwI_u h)))
  · skip
    simp only [C_L_valuationBefore, C_X9_valuationBefore, wrI, if_true, if_false, reduceIte, Int.reduceEq, List.mem_cons, List.not_mem_nil, or_false, true_and, and_true, hf_0_0, hf_01_0, hf_01_1, hf_03_0, hf_03_3, hf_12_1, hf_12_2, hf_012_0, hf_012_1, hf_012_2, hf_2_2, h7]
    (repeat' first | with_reducible apply And.intro | with_reducible intro _)
    all_goals first
      | (with_reducible exact rfl)
      | omega
      | assumption
      | contradiction
      | (rename trF _ _ _ ∧ _ => q9; exact absurd q9.1.1 hs)
      | (with_reducible exact Or.inl trivial)
      | (with_reducible exact Or.inr trivial)
      | (exact (ha _ (by assumption)).2)
      | (exact (ha _ hs).2)
      | (with_reducible exact ⟨hpz, hwc⟩)
      | (with_reducible exact hqu)
      | (with_reducible exact shD_n (by omega))
      | (with_reducible exact avD_nn (by first | exact hW _ (by assumption) | exact hW _ hs))
      | (exact hnn)
      | (refine H _ _ (fun Q2 f => ?_)
         simp only [C_X10_valuationBefore, true_and]
         (repeat' first | with_reducible apply And.intro | with_reducible intro _)
         all_goals first
           | (with_reducible exact rfl)
           | omega
           | assumption
           | contradiction
           | (rename trF _ _ _ ∧ _ => q9; exact absurd q9.1.1 hs)
           | (with_reducible exact Or.inl trivial)
           | (with_reducible exact Or.inr trivial)
           | (exact hW _ (by assumption))
           | (exact hW)
           | (exact f _ _ up_p (fun _ => ⟨up_q, rl_of (by assumption)⟩) (lwI_u h))
           | (exact f _ _ up_p (fun q => absurd q (by decide)) (lwI_u h)))
set_option maxRecDepth 100000 in
set_option maxHeartbeats 4000000 in
theorem lc_statesAfter {z : pvM} {s n : Int} (h : lwI z) {Q : pvO → pvM → Prop} (H : ∀ (k : Int) (z1 : pvM), (∀ Q2 : pvO → pvM → Prop, (∀ b z2, z2.1 39 8 = k → (k = 0 → z2.2.1 58 0 = b ∧ pvRL b) → lwI z2 → Q2 (.inl (some (vI b))) z2) → C_X10_statesAfter [vR 39, vI s, vI n] z1 Q2) → Q (.inl (some (vI k))) z1) : C_L_statesAfter [vR 0, vI s, vI n, vR 58] z Q := by
  have ha := h.1
  have hW := lw_W h
  have hwc := lw_wc h
  have hwd := lw_wd h
  have h7 : z.1 20 4 = z.1 39 7 := h.2.2.1.2.1
  have hag := lw_ag h
  rw [h7] at hag
  have hn := hwd.1
  have hpz : pzF z := h.2.2.2.2.2.1
  have hqu : ∃ L, quF z L := h.2.2.2.2.2.2.1
  have hem : psS z 13 emA := h.2.2.2.2.2.2.2.1
  have hsm : smP z := h.2.2.2.2.2.2.2.2
  by_cases c0 : (0 ≤ s ∧ s ≤ 1) ∧ 0 ≤ n ∧ n ≤ z.1 39 7
  · have hs := c0.1
    simp only [C_L_statesAfter, C_X9_statesAfter, wrI, if_true, if_false, reduceIte, Int.reduceEq, List.mem_cons, List.not_mem_nil, or_false, true_and, and_true, hf_0_0, hf_01_0, hf_01_1, hf_03_0, hf_03_3, hf_12_1, hf_12_2, hf_012_0, hf_012_1, hf_012_2, hf_2_2, h7, (ha s c0.1).1, af_x (A := autR (z.1 40) s) hag n.toNat (by omega)]
    (repeat' first | with_reducible apply And.intro | with_reducible intro _)
    all_goals first
      | (with_reducible exact rfl)
      | omega
      | assumption
      | contradiction
      | (rename trF _ _ _ ∧ _ => q9; exact absurd q9.1.1 hs)
      | (with_reducible exact Or.inl trivial)
      | (with_reducible exact Or.inr trivial)
      | (exact (ha _ (by assumption)).2)
      | (exact (ha _ hs).2)
      | (with_reducible exact ⟨hpz, hwc⟩)
      | (with_reducible exact hqu)
      | (with_reducible exact shD_n (by omega))
      | (with_reducible exact avD_nn (by first | exact hW _ (by assumption) | exact hW _ hs))
      | (exact hnn)
      | (refine H _ _ (fun Q2 f => ?_)
         simp only [C_X10_statesAfter, true_and]
         (repeat' first | with_reducible apply And.intro | with_reducible intro _)
         all_goals first
           | (with_reducible exact rfl)
           | omega
           | assumption
           | contradiction
           | (rename trF _ _ _ ∧ _ => q9; exact absurd q9.1.1 hs)
           | (with_reducible exact Or.inl trivial)
           | (with_reducible exact Or.inr trivial)
           | (exact hW _ (by assumption))
           | (exact hW)
           | (exact f _ _ up_p (fun _ => ⟨up_q, rl_of (by assumption)⟩) (lwI_u h))
           | (exact f _ _ up_p (fun q => absurd q (by decide)) (lwI_u h)))
  · skip
    simp only [C_L_statesAfter, C_X9_statesAfter, wrI, if_true, if_false, reduceIte, Int.reduceEq, List.mem_cons, List.not_mem_nil, or_false, true_and, and_true, hf_0_0, hf_01_0, hf_01_1, hf_03_0, hf_03_3, hf_12_1, hf_12_2, hf_012_0, hf_012_1, hf_012_2, hf_2_2, h7]
    (repeat' first | with_reducible apply And.intro | with_reducible intro _)
    all_goals first
      | (with_reducible exact rfl)
      | omega
      | assumption
      | contradiction
      | (rename trF _ _ _ ∧ _ => q9; exact absurd q9.1.1 hs)
      | (with_reducible exact Or.inl trivial)
      | (with_reducible exact Or.inr trivial)
      | (exact (ha _ (by assumption)).2)
      | (exact (ha _ hs).2)
      | (with_reducible exact ⟨hpz, hwc⟩)
      | (with_reducible exact hqu)
      | (with_reducible exact shD_n (by omega))
      | (with_reducible exact avD_nn (by first | exact hW _ (by assumption) | exact hW _ hs))
      | (exact hnn)
      | (refine H _ _ (fun Q2 f => ?_)
         simp only [C_X10_statesAfter, true_and]
         (repeat' first | with_reducible apply And.intro | with_reducible intro _)
         all_goals first
           | (with_reducible exact rfl)
           | omega
           | assumption
           | contradiction
           | (rename trF _ _ _ ∧ _ => q9; exact absurd q9.1.1 hs)
           | (with_reducible exact Or.inl trivial)
           | (with_reducible exact Or.inr trivial)
           | (exact hW _ (by assumption))
           | (exact hW)
           | (exact f _ _ up_p (fun _ => ⟨up_q, rl_of (by assumption)⟩) (lwI_u h))
           | (exact f _ _ up_p (fun q => absurd q (by decide)) (lwI_u h)))
set_option maxRecDepth 100000 in
set_option maxHeartbeats 4000000 in
theorem lc_accepts {z : pvM} {s : Int} (h : lwI z) {Q : pvO → pvM → Prop} (H : ∀ (k : Int) (z1 : pvM), (∀ Q2 : pvO → pvM → Prop, (∀ b z2, z2.1 39 8 = k → (k = 0 → z2.2.1 58 0 = if b = 0 then 0 else 1) → lwI z2 → Q2 (.inl (some (vI b))) z2) → C_X10_accepts [vR 39, vI s] z1 Q2) → Q (.inl (some (vI k))) z1) : C_L_accepts [vR 0, vI s, vR 58] z Q := by
  have ha := h.1
  have hW := lw_W h
  have hwc := lw_wc h
  have hwd := lw_wd h
  have h7 : z.1 20 4 = z.1 39 7 := h.2.2.1.2.1
  have hag := lw_ag h
  rw [h7] at hag
  have hn := hwd.1
  have hpz : pzF z := h.2.2.2.2.2.1
  have hqu : ∃ L, quF z L := h.2.2.2.2.2.2.1
  have hem : psS z 13 emA := h.2.2.2.2.2.2.2.1
  have hsm : smP z := h.2.2.2.2.2.2.2.2
  by_cases hs : 0 ≤ s ∧ s ≤ 1
  · skip
    simp only [C_L_accepts, C_X9_accepts, wrB, if_true, if_false, reduceIte, Int.reduceEq, List.mem_cons, List.not_mem_nil, or_false, true_and, and_true, hf_0_0, hf_01_0, hf_01_1, hf_03_0, hf_03_3, hf_12_1, hf_12_2, hf_012_0, hf_012_1, hf_012_2, hf_2_2, h7, (ha s hs).1, af_x (A := autR (z.1 40) s) hag (z.1 39 7).toNat (by omega)]
    (repeat' first | with_reducible apply And.intro | with_reducible intro _)
    all_goals first
      | (with_reducible exact rfl)
      | omega
      | assumption
      | contradiction
      | (rename trF _ _ _ ∧ _ => q9; exact absurd q9.1.1 hs)
      | (with_reducible exact Or.inl trivial)
      | (with_reducible exact Or.inr trivial)
      | (exact (ha _ (by assumption)).2)
      | (exact (ha _ hs).2)
      | (with_reducible exact ⟨hpz, hwc⟩)
      | (with_reducible exact hqu)
      | (with_reducible exact shD_n (by omega))
      | (with_reducible exact avD_nn (by first | exact hW _ (by assumption) | exact hW _ hs))
      | (exact hnn)
      | (refine H _ _ (fun Q2 f => ?_)
         simp only [C_X10_accepts, true_and]
         (repeat' first | with_reducible apply And.intro | with_reducible intro _)
         all_goals first
           | (with_reducible exact rfl)
           | omega
           | assumption
           | contradiction
           | (rename trF _ _ _ ∧ _ => q9; exact absurd q9.1.1 hs)
           | (with_reducible exact Or.inl trivial)
           | (with_reducible exact Or.inr trivial)
           | (exact hW _ (by assumption))
           | (exact hW)
           | (exact f _ _ up_p (fun _ => up_q) (lwI_u h))
           | (exact f _ _ up_p (fun q => absurd q (by decide)) (lwI_u h)))
  · skip
    simp only [C_L_accepts, C_X9_accepts, wrB, if_true, if_false, reduceIte, Int.reduceEq, List.mem_cons, List.not_mem_nil, or_false, true_and, and_true, hf_0_0, hf_01_0, hf_01_1, hf_03_0, hf_03_3, hf_12_1, hf_12_2, hf_012_0, hf_012_1, hf_012_2, hf_2_2, h7]
    (repeat' first | with_reducible apply And.intro | with_reducible intro _)
    all_goals first
      | (with_reducible exact rfl)
      | omega
      | assumption
      | contradiction
      | (rename trF _ _ _ ∧ _ => q9; exact absurd q9.1.1 hs)
      | (with_reducible exact Or.inl trivial)
      | (with_reducible exact Or.inr trivial)
      | (exact (ha _ (by assumption)).2)
      | (exact (ha _ hs).2)
      | (with_reducible exact ⟨hpz, hwc⟩)
      | (with_reducible exact hqu)
      | (with_reducible exact shD_n (by omega))
      | (with_reducible exact avD_nn (by first | exact hW _ (by assumption) | exact hW _ hs))
      | (exact hnn)
      | (refine H _ _ (fun Q2 f => ?_)
         simp only [C_X10_accepts, true_and]
         (repeat' first | with_reducible apply And.intro | with_reducible intro _)
         all_goals first
           | (with_reducible exact rfl)
           | omega
           | assumption
           | contradiction
           | (rename trF _ _ _ ∧ _ => q9; exact absurd q9.1.1 hs)
           | (with_reducible exact Or.inl trivial)
           | (with_reducible exact Or.inr trivial)
           | (exact hW _ (by assumption))
           | (exact hW)
           | (exact f _ _ up_p (fun _ => up_q) (lwI_u h))
           | (exact f _ _ up_p (fun q => absurd q (by decide)) (lwI_u h)))
set_option maxRecDepth 100000 in
set_option maxHeartbeats 4000000 in
theorem lc_stuckAt {z : pvM} {s : Int} (h : lwI z) {Q : pvO → pvM → Prop} (H : ∀ (k : Int) (z1 : pvM), (∀ Q2 : pvO → pvM → Prop, (∀ b z2, z2.1 39 8 = k → (k = 0 → z2.2.1 58 0 = b ∧ pvRL b) → lwI z2 → Q2 (.inl (some (vI b))) z2) → C_X10_stuckAt [vR 39, vI s] z1 Q2) → Q (.inl (some (vI k))) z1) : C_L_stuckAt [vR 0, vI s, vR 58] z Q := by
  have ha := h.1
  have hW := lw_W h
  have hwc := lw_wc h
  have hwd := lw_wd h
  have h7 : z.1 20 4 = z.1 39 7 := h.2.2.1.2.1
  have hag := lw_ag h
  rw [h7] at hag
  have hn := hwd.1
  have hpz : pzF z := h.2.2.2.2.2.1
  have hqu : ∃ L, quF z L := h.2.2.2.2.2.2.1
  have hem : psS z 13 emA := h.2.2.2.2.2.2.2.1
  have hsm : smP z := h.2.2.2.2.2.2.2.2
  by_cases hs : 0 ≤ s ∧ s ≤ 1
  · skip
    simp only [C_L_stuckAt, C_X9_stuckAt, wrI, if_true, if_false, reduceIte, Int.reduceEq, List.mem_cons, List.not_mem_nil, or_false, true_and, and_true, hf_0_0, hf_01_0, hf_01_1, hf_03_0, hf_03_3, hf_12_1, hf_12_2, hf_012_0, hf_012_1, hf_012_2, hf_2_2, h7, (ha s hs).1, st_x (A := autR (z.1 40) s) hag (z.1 39 7).toNat 0 (by omega)]
    (repeat' first | with_reducible apply And.intro | with_reducible intro _)
    all_goals first
      | (with_reducible exact rfl)
      | omega
      | assumption
      | contradiction
      | (rename trF _ _ _ ∧ _ => q9; exact absurd q9.1.1 hs)
      | (with_reducible exact Or.inl trivial)
      | (with_reducible exact Or.inr trivial)
      | (exact (ha _ (by assumption)).2)
      | (exact (ha _ hs).2)
      | (with_reducible exact ⟨hpz, hwc⟩)
      | (with_reducible exact hqu)
      | (with_reducible exact shD_n (by omega))
      | (with_reducible exact avD_nn (by first | exact hW _ (by assumption) | exact hW _ hs))
      | (exact hnn)
      | (refine H _ _ (fun Q2 f => ?_)
         simp only [C_X10_stuckAt, true_and]
         (repeat' first | with_reducible apply And.intro | with_reducible intro _)
         all_goals first
           | (with_reducible exact rfl)
           | omega
           | assumption
           | contradiction
           | (rename trF _ _ _ ∧ _ => q9; exact absurd q9.1.1 hs)
           | (with_reducible exact Or.inl trivial)
           | (with_reducible exact Or.inr trivial)
           | (exact hW _ (by assumption))
           | (exact hW)
           | (exact f _ _ up_p (fun _ => ⟨up_q, rl_of (by assumption)⟩) (lwI_u h))
           | (exact f _ _ up_p (fun q => absurd q (by decide)) (lwI_u h)))
  · skip
    simp only [C_L_stuckAt, C_X9_stuckAt, wrI, if_true, if_false, reduceIte, Int.reduceEq, List.mem_cons, List.not_mem_nil, or_false, true_and, and_true, hf_0_0, hf_01_0, hf_01_1, hf_03_0, hf_03_3, hf_12_1, hf_12_2, hf_012_0, hf_012_1, hf_012_2, hf_2_2, h7]
    (repeat' first | with_reducible apply And.intro | with_reducible intro _)
    all_goals first
      | (with_reducible exact rfl)
      | omega
      | assumption
      | contradiction
      | (rename trF _ _ _ ∧ _ => q9; exact absurd q9.1.1 hs)
      | (with_reducible exact Or.inl trivial)
      | (with_reducible exact Or.inr trivial)
      | (exact (ha _ (by assumption)).2)
      | (exact (ha _ hs).2)
      | (with_reducible exact ⟨hpz, hwc⟩)
      | (with_reducible exact hqu)
      | (with_reducible exact shD_n (by omega))
      | (with_reducible exact avD_nn (by first | exact hW _ (by assumption) | exact hW _ hs))
      | (exact hnn)
      | (refine H _ _ (fun Q2 f => ?_)
         simp only [C_X10_stuckAt, true_and]
         (repeat' first | with_reducible apply And.intro | with_reducible intro _)
         all_goals first
           | (with_reducible exact rfl)
           | omega
           | assumption
           | contradiction
           | (rename trF _ _ _ ∧ _ => q9; exact absurd q9.1.1 hs)
           | (with_reducible exact Or.inl trivial)
           | (with_reducible exact Or.inr trivial)
           | (exact hW _ (by assumption))
           | (exact hW)
           | (exact f _ _ up_p (fun _ => ⟨up_q, rl_of (by assumption)⟩) (lwI_u h))
           | (exact f _ _ up_p (fun q => absurd q (by decide)) (lwI_u h)))
set_option maxRecDepth 100000 in
set_option maxHeartbeats 4000000 in
theorem lc_blockingConstraint {z : pvM} {s t i : Int} (h : lwI z) {Q : pvO → pvM → Prop} (H : ∀ (k : Int) (z1 : pvM), (∀ Q2 : pvO → pvM → Prop, (∀ b z2, z2.1 39 8 = k → (k = 0 → z2.2.1 58 0 = b ∧ pvRL b) → lwI z2 → Q2 (.inl (some (vI b))) z2) → C_X10_blockingConstraint [vR 39, vI s, vI t, vI i] z1 Q2) → Q (.inl (some (vI k))) z1) : C_L_blockingConstraint [vR 0, vI s, vI t, vI i, vR 58] z Q := by
  have ha := h.1
  have hW := lw_W h
  have hwc := lw_wc h
  have hwd := lw_wd h
  have h7 : z.1 20 4 = z.1 39 7 := h.2.2.1.2.1
  have hag := lw_ag h
  rw [h7] at hag
  have hn := hwd.1
  have hpz : pzF z := h.2.2.2.2.2.1
  have hqu : ∃ L, quF z L := h.2.2.2.2.2.2.1
  have hem : psS z 13 emA := h.2.2.2.2.2.2.2.1
  have hsm : smP z := h.2.2.2.2.2.2.2.2
  by_cases c0 : trF (autR (z.1 40)) s t ∧ 0 ≤ i ∧ i < z.1 39 7
  · have hs := c0.1.1
    simp only [C_L_blockingConstraint, C_X9_blockingConstraint, wrI, if_true, if_false, reduceIte, Int.reduceEq, List.mem_cons, List.not_mem_nil, or_false, true_and, and_true, hf_0_0, hf_01_0, hf_01_1, hf_03_0, hf_03_3, hf_12_1, hf_12_2, hf_012_0, hf_012_1, hf_012_2, hf_2_2, lw_tr h, h7, (ha s c0.1.1).1, (hag i.toNat (by omega)).1, (hag i.toNat (by omega)).2, va_x hag i.toNat (by omega)]
    (repeat' first | with_reducible apply And.intro | with_reducible intro _)
    all_goals first
      | (with_reducible exact rfl)
      | omega
      | assumption
      | contradiction
      | (rename trF _ _ _ ∧ _ => q9; exact absurd q9.1.1 hs)
      | (with_reducible exact Or.inl trivial)
      | (with_reducible exact Or.inr trivial)
      | (exact (ha _ (by assumption)).2)
      | (exact (ha _ hs).2)
      | (with_reducible exact ⟨hpz, hwc⟩)
      | (with_reducible exact hqu)
      | (with_reducible exact shD_n (by omega))
      | (with_reducible exact avD_nn (by first | exact hW _ (by assumption) | exact hW _ hs))
      | (exact hnn)
      | (refine H _ _ (fun Q2 f => ?_)
         simp only [C_X10_blockingConstraint, true_and]
         (repeat' first | with_reducible apply And.intro | with_reducible intro _)
         all_goals first
           | (with_reducible exact rfl)
           | omega
           | assumption
           | contradiction
           | (rename trF _ _ _ ∧ _ => q9; exact absurd q9.1.1 hs)
           | (with_reducible exact Or.inl trivial)
           | (with_reducible exact Or.inr trivial)
           | (exact hW _ (by assumption))
           | (exact hW)
           | (exact f _ _ up_p (fun _ => ⟨up_q, rl_of (by assumption)⟩) (lwI_u h))
           | (exact f _ _ up_p (fun q => absurd q (by decide)) (lwI_u h)))
  · skip
    simp only [C_L_blockingConstraint, C_X9_blockingConstraint, wrI, if_true, if_false, reduceIte, Int.reduceEq, List.mem_cons, List.not_mem_nil, or_false, true_and, and_true, hf_0_0, hf_01_0, hf_01_1, hf_03_0, hf_03_3, hf_12_1, hf_12_2, hf_012_0, hf_012_1, hf_012_2, hf_2_2, lw_tr h, h7]
    (repeat' first | with_reducible apply And.intro | with_reducible intro _)
    all_goals first
      | (with_reducible exact rfl)
      | omega
      | assumption
      | contradiction
      | (rename trF _ _ _ ∧ _ => q9; exact absurd q9.1.1 hs)
      | (with_reducible exact Or.inl trivial)
      | (with_reducible exact Or.inr trivial)
      | (exact (ha _ (by assumption)).2)
      | (exact (ha _ hs).2)
      | (with_reducible exact ⟨hpz, hwc⟩)
      | (with_reducible exact hqu)
      | (with_reducible exact shD_n (by omega))
      | (with_reducible exact avD_nn (by first | exact hW _ (by assumption) | exact hW _ hs))
      | (exact hnn)
      | (refine H _ _ (fun Q2 f => ?_)
         simp only [C_X10_blockingConstraint, true_and]
         (repeat' first | with_reducible apply And.intro | with_reducible intro _)
         all_goals first
           | (with_reducible exact rfl)
           | omega
           | assumption
           | contradiction
           | (rename trF _ _ _ ∧ _ => q9; exact absurd q9.1.1 hs)
           | (with_reducible exact Or.inl trivial)
           | (with_reducible exact Or.inr trivial)
           | (exact hW _ (by assumption))
           | (exact hW)
           | (exact f _ _ up_p (fun _ => ⟨up_q, rl_of (by assumption)⟩) (lwI_u h))
           | (exact f _ _ up_p (fun q => absurd q (by decide)) (lwI_u h)))
set_option maxRecDepth 100000 in
set_option maxHeartbeats 4000000 in
theorem lc_isDeterministic {z : pvM} {s : Int} (h : lwI z) {Q : pvO → pvM → Prop} (H : ∀ (k : Int) (z1 : pvM), (∀ Q2 : pvO → pvM → Prop, (∀ b z2, z2.1 39 8 = k → (k = 0 → z2.2.1 58 0 = if b = 0 then 0 else 1) → lwI z2 → Q2 (.inl (some (vI b))) z2) → C_X10_isDeterministic [vR 39, vI s] z1 Q2) → Q (.inl (some (vI k))) z1) : C_L_isDeterministic [vR 0, vI s, vR 58] z Q := by
  have ha := h.1
  have hW := lw_W h
  have hwc := lw_wc h
  have hwd := lw_wd h
  have h7 : z.1 20 4 = z.1 39 7 := h.2.2.1.2.1
  have hag := lw_ag h
  rw [h7] at hag
  have hn := hwd.1
  have hpz : pzF z := h.2.2.2.2.2.1
  have hqu : ∃ L, quF z L := h.2.2.2.2.2.2.1
  have hem : psS z 13 emA := h.2.2.2.2.2.2.2.1
  have hsm : smP z := h.2.2.2.2.2.2.2.2
  by_cases hs : 0 ≤ s ∧ s ≤ 1
  · skip
    simp only [C_L_isDeterministic, C_X9_isDeterministic, wrB, if_true, if_false, reduceIte, Int.reduceEq, List.mem_cons, List.not_mem_nil, or_false, true_and, and_true, hf_0_0, hf_01_0, hf_01_1, hf_03_0, hf_03_3, hf_12_1, hf_12_2, hf_012_0, hf_012_1, hf_012_2, hf_2_2, (ha s hs).1]
    (repeat' first | with_reducible apply And.intro | with_reducible intro _)
    all_goals first
      | (with_reducible exact rfl)
      | omega
      | assumption
      | contradiction
      | (rename trF _ _ _ ∧ _ => q9; exact absurd q9.1.1 hs)
      | (with_reducible exact Or.inl trivial)
      | (with_reducible exact Or.inr trivial)
      | (exact (ha _ (by assumption)).2)
      | (exact (ha _ hs).2)
      | (with_reducible exact ⟨hpz, hwc⟩)
      | (with_reducible exact hqu)
      | (with_reducible exact shD_n (by omega))
      | (with_reducible exact avD_nn (by first | exact hW _ (by assumption) | exact hW _ hs))
      | (exact hnn)
      | (refine H _ _ (fun Q2 f => ?_)
         simp only [C_X10_isDeterministic, true_and]
         (repeat' first | with_reducible apply And.intro | with_reducible intro _)
         all_goals first
           | (with_reducible exact rfl)
           | omega
           | assumption
           | contradiction
           | (rename trF _ _ _ ∧ _ => q9; exact absurd q9.1.1 hs)
           | (with_reducible exact Or.inl trivial)
           | (with_reducible exact Or.inr trivial)
           | (exact hW _ (by assumption))
           | (exact hW)
           | (exact f _ _ up_p (fun _ => up_q) (lwI_u h))
           | (exact f _ _ up_p (fun q => absurd q (by decide)) (lwI_u h)))
  · skip
    simp only [C_L_isDeterministic, C_X9_isDeterministic, wrB, if_true, if_false, reduceIte, Int.reduceEq, List.mem_cons, List.not_mem_nil, or_false, true_and, and_true, hf_0_0, hf_01_0, hf_01_1, hf_03_0, hf_03_3, hf_12_1, hf_12_2, hf_012_0, hf_012_1, hf_012_2, hf_2_2]
    (repeat' first | with_reducible apply And.intro | with_reducible intro _)
    all_goals first
      | (with_reducible exact rfl)
      | omega
      | assumption
      | contradiction
      | (rename trF _ _ _ ∧ _ => q9; exact absurd q9.1.1 hs)
      | (with_reducible exact Or.inl trivial)
      | (with_reducible exact Or.inr trivial)
      | (exact (ha _ (by assumption)).2)
      | (exact (ha _ hs).2)
      | (with_reducible exact ⟨hpz, hwc⟩)
      | (with_reducible exact hqu)
      | (with_reducible exact shD_n (by omega))
      | (with_reducible exact avD_nn (by first | exact hW _ (by assumption) | exact hW _ hs))
      | (exact hnn)
      | (refine H _ _ (fun Q2 f => ?_)
         simp only [C_X10_isDeterministic, true_and]
         (repeat' first | with_reducible apply And.intro | with_reducible intro _)
         all_goals first
           | (with_reducible exact rfl)
           | omega
           | assumption
           | contradiction
           | (rename trF _ _ _ ∧ _ => q9; exact absurd q9.1.1 hs)
           | (with_reducible exact Or.inl trivial)
           | (with_reducible exact Or.inr trivial)
           | (exact hW _ (by assumption))
           | (exact hW)
           | (exact f _ _ up_p (fun _ => up_q) (lwI_u h))
           | (exact f _ _ up_p (fun q => absurd q (by decide)) (lwI_u h)))
