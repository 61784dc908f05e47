def trC (z : pvM) (s t : Int) : Prop := (0 ≤ s ∧ s ≤ 1) ∧ 0 ≤ t ∧ t < (autC (z.1 (rwC s))).1
def C_X9_setInitial : pvC
  | [.inr (.inr (.inl id)), .inl s, .inl q, .inl on], z, Q => id = 0 ∧ (hiF z ∧ WfC (z.1 2) ∧ WfC (z.1 4) ∧ (on = 0 ∨ on = 1)) ∧
      (¬ ((0 ≤ s ∧ s ≤ 1) ∧ 0 ≤ q ∧ q ≤ 3) → Q (.inr 0) z) ∧
      ((0 ≤ s ∧ s ≤ 1) ∧ (0 ≤ q ∧ q ≤ 3) → ∀ z' : pvM, frF [2, 4, 5, 9, 36, 37] [] z z' → reF z z' → stF z z' → autC (z'.1 (rwC s)) = inA (autC (z.1 (rwC s))) (msF (autC (z.1 (rwC s))).2.1 q on) → WfC (z'.1 (rwC s)) → z'.1 (rwC (1 - s)) = z.1 (rwC (1 - s)) → Q (.inl (some (vI (if btF (autC (z.1 (rwC s))).2.1 q then 1 else 0)))) z')
  | _, _, _ => False
def bX9_setInitial : Nat → List (Instr × Nat)
  | 0 => [(.iload_n 1, 1), (.iconst 2, 1), (.invokestatic 97, 3), (.iload_n 2, 1), (.iconst 4, 1), (.invokestatic 97, 3), (.aload_n 0, 1), (.invokevirtual 112, 3), (.aload_n 0, 1), (.iload_n 1, 1), (.invokevirtual 104, 3), (.astore 4, 2), (.aload 4, 2), (.invokevirtual 125, 3), (.istore 5, 2), (.aload 4, 2), (.iload 5, 2), (.iload_n 2, 1), (.iload_n 3, 1), (.invokestatic 128, 3), (.invokevirtual 132, 3), (.iload 5, 2), (.iload_n 2, 1), (.invokestatic 136, 3), (.ireturn, 1)]
  | _ => []
def uX9_setInitial : Nat → Option (List Bool)
  | _ => none
def aX9_setInitial : pvCa
  | 97 => some (2, true, 0, 0, C_X9_requireIndex)
  | 104 => some (2, false, 8, 0, C_X9_automaton)
  | 112 => some (1, false, 8, 0, C_X9_beginChange)
  | 125 => some (1, false, 0, 0, C_X0_initialStates)
  | 128 => some (3, true, 0, 0, C_X9_withState)
  | 132 => some (2, false, 0, 0, C_X0_putInitialStates)
  | 136 => some (2, true, 0, 0, C_X9_hasState)
  | _ => none
theorem bX9_setInitial_0 : bX9_setInitial 0 = [(.iload_n 1, 1), (.iconst 2, 1), (.invokestatic 97, 3), (.iload_n 2, 1), (.iconst 4, 1), (.invokestatic 97, 3), (.aload_n 0, 1), (.invokevirtual 112, 3), (.aload_n 0, 1), (.iload_n 1, 1), (.invokevirtual 104, 3), (.astore 4, 2), (.aload 4, 2), (.invokevirtual 125, 3), (.istore 5, 2), (.aload 4, 2), (.iload 5, 2), (.iload_n 2, 1), (.iload_n 3, 1), (.invokestatic 128, 3), (.invokevirtual 132, 3), (.iload 5, 2), (.iload_n 2, 1), (.invokestatic 136, 3), (.ireturn, 1)] := rfl
theorem uX9_setInitial_0 : uX9_setInitial 0 = none := rfl
theorem aX9_setInitial_97 : aX9_setInitial 97 = some (2, true, 0, 0, C_X9_requireIndex) := rfl
theorem aX9_setInitial_104 : aX9_setInitial 104 = some (2, false, 8, 0, C_X9_automaton) := rfl
theorem aX9_setInitial_112 : aX9_setInitial 112 = some (1, false, 8, 0, C_X9_beginChange) := rfl
theorem aX9_setInitial_125 : aX9_setInitial 125 = some (1, false, 0, 0, C_X0_initialStates) := rfl
theorem aX9_setInitial_128 : aX9_setInitial 128 = some (3, true, 0, 0, C_X9_withState) := rfl
theorem aX9_setInitial_132 : aX9_setInitial 132 = some (2, false, 0, 0, C_X0_putInitialStates) := rfl
theorem aX9_setInitial_136 : aX9_setInitial 136 = some (2, true, 0, 0, C_X9_hasState) := rfl
set_option maxRecDepth 100000 in
set_option maxHeartbeats 4000000 in
theorem okX9_setInitial : pvOkM fX9 aX9_setInitial kX9 eX9 (some .boolean) bX9_setInitial uX9_setInitial 6 C_X9_setInitial := by
  intro Q SW hc as z h hS hz
  unfold C_X9_setInitial at h
  split at h
  · rename_i id s q on
    obtain ⟨rfl, ⟨hh, w2, w4, ho⟩, h1, h2⟩ := h
    refine ⟨Nat.le_of_ble_eq_true rfl, hc 20 _ _ _ fun _ _ => ?_⟩
    clear hc hS hz
    simp only [pvSt1]
    simp only [C_X9_requireIndex, C_X9_beginChange, C_X9_automaton, C_X0_initialStates, C_X0_putInitialStates, C_X9_withState, C_X9_hasState, pvE_iload_n1, pvLI_s, pvLd, pvE_iconst, pvE_invokestatic (h0 := eX9_97), pvC1_s, pvC2_s, pvAf_v, pvAf_x, pvPop, pvCs, pvCat, pvPush, aX9_setInitial_97, pvE_iload_n2, pvE_aload_n0, pvLA_s, pvE_invokevirtual, aX9_setInitial_112, pvSh_0, pvSh_1, pvSh_2, pvSh_3, pvSh_4, pvSh_5, pvSh_6, pvSh_7, pvSh_8, pvSh_9, pvSh_10, pvSh_11, pvSh_12, pvSh_13, pvSh_14, pvSh_15, pvSh_16, pvSh_17, pvSh_18, pvSh_19, pvSh_20, pvSh_21, pvSh_22, pvSh_23, pvSh_24, pvSh_25, pvSh_26, pvSh_27, pvSh_28, pvSh_29, pvSh_30, pvSh_31, pvSh_32, pvSh_33, pvSh_34, pvSh_35, pvSh_36, pvSh_37, pvSh_38, aX9_setInitial_104, pvE_astore, pvS1, List.length_cons, List.length_nil, pvClr_i, pvClr_r, pvClr_l, pvClr_d, pvClr_f, pvClr_n, pvE_aload, aX9_setInitial_125, pvE_istore, pvE_iload, pvE_iload_n3, pvE_invokestatic (h0 := eX9_128), aX9_setInitial_128, aX9_setInitial_132, pvE_invokestatic (h0 := eX9_136), aX9_setInitial_136, pvE_ireturn, bX9_setInitial_0, uX9_setInitial_0, pvRtG, pvRecv_r, pvUp_nl, pvUp_same, pvUp_ap, pvSt_ap, pvX_c, pvX_ms, pvX_mn, pvE_nil, pvEn_i, pvEn_r, pvEn_l, pvEn_0, pvEn_s, pvRt, pvRv, pvTh, pvKc, pvGo, pvTgt, Int.toNat_natCast, false_and, and_false, true_and, and_true, if_true, if_false, reduceIte, reduceCtorEq, forall_const, false_or, or_false, true_or, or_true, ne_eq, not_true_eq_false, not_false_eq_true, implies_true, false_implies, Nat.reduceAdd, Nat.reduceSub, Nat.reduceMul, Nat.reduceEqDiff, Nat.reduceLT, Nat.reduceLeDiff, Int.reduceAdd, Int.reduceSub, Int.reduceMul, Int.reduceNeg, Int.reduceToNat, Int.reduceLE, Int.reduceLT, Int.reduceEq, Int.reduceNe, and_self]
    by_cases hv : (0 ≤ s ∧ s ≤ 1) ∧ 0 ≤ q ∧ q ≤ 3
    · have h3 := h2 hv
      obtain ⟨hs, hq⟩ := hv
      rcases (show s = 0 ∨ s = 1 by omega) with rfl | rfl
      · have hb : 0 ≤ z.1 2 1 ∧ z.1 2 1 ≤ 15 := w2.1.2.1
        have hm := (msF_eq hb hq ho).2
        have h4 : ∀ z1 : pvM, frF [5, 9, 36, 37] [] z z1 → reF z z1 → stF z z1 → Q (.inl (some (vI (if btF (z.1 2 1) q then 1 else 0)))) (pvUp z1.1 2 1 (msF (z.1 2 1) q on), z1.2) := by
          intro z1 f1 r1 s1
          have g2 := f1.1 2 (by decide)
          have g4 := f1.1 4 (by decide)
          obtain ⟨a1, a2⟩ := inC_of (g := pvUp z1.1 2 1 (msF (z.1 2 1) q on) 2) w2 hm (by simp [pvUp_ap]) (fun j hj => by rw [pvUp_ap, if_neg (by simp [hj]), g2])
          exact h3 (pvUp z1.1 2 1 (msF (z.1 2 1) q on), z1.2) (frF_u (frF_t frF_0 f1 (by decide) (by decide)) (by decide)) (reF_m r1 (by simp only [pvUp_nl, pvSt_ne, pvSt_eq, ne_eq, Nat.reduceEqDiff, not_false_eq_true]) (by simp only [pvUp_nl, pvSt_ne, pvSt_eq, ne_eq, Nat.reduceEqDiff, not_false_eq_true])) (stF_m s1 (by simp only [pvUp_nl, pvSt_ne, pvSt_eq, ne_eq, Nat.reduceEqDiff, not_false_eq_true]) (by simp only [pvUp_nl, pvSt_ne, pvSt_eq, ne_eq, Nat.reduceEqDiff, not_false_eq_true])) a1 a2 (by simp only [pvUp_nl, pvSt_ne, pvSt_eq, ne_eq, Nat.reduceEqDiff, not_false_eq_true]; exact g4)
        (repeat' (first | with_reducible apply And.intro | intro _))
        all_goals first
          | omega
          | exact hh
          | contradiction
          | skip
        all_goals first
          | (rename frF [5, 9, 36, 37] [] z _ => f1
             rw [f1.1 2 (by decide)]
             omega)
          | (rename frF [5, 9, 36, 37] [] z _ => f1
             rename reF z _ => r1
             rename stF z _ => s1
             rename btF _ _ = _ => e
             have h5 := h4 _ f1 r1 s1
             rw [← f1.1 2 (by decide), e] at h5
             exact h5)
      · have hb : 0 ≤ z.1 4 1 ∧ z.1 4 1 ≤ 15 := w4.1.2.1
        have hm := (msF_eq hb hq ho).2
        have h4 : ∀ z1 : pvM, frF [5, 9, 36, 37] [] z z1 → reF z z1 → stF z z1 → Q (.inl (some (vI (if btF (z.1 4 1) q then 1 else 0)))) (pvUp z1.1 4 1 (msF (z.1 4 1) q on), z1.2) := by
          intro z1 f1 r1 s1
          have g2 := f1.1 2 (by decide)
          have g4 := f1.1 4 (by decide)
          obtain ⟨a1, a2⟩ := inC_of (g := pvUp z1.1 4 1 (msF (z.1 4 1) q on) 4) w4 hm (by simp [pvUp_ap]) (fun j hj => by rw [pvUp_ap, if_neg (by simp [hj]), g4])
          exact h3 (pvUp z1.1 4 1 (msF (z.1 4 1) q on), z1.2) (frF_u (frF_t frF_0 f1 (by decide) (by decide)) (by decide)) (reF_m r1 (by simp only [pvUp_nl, pvSt_ne, pvSt_eq, ne_eq, Nat.reduceEqDiff, not_false_eq_true]) (by simp only [pvUp_nl, pvSt_ne, pvSt_eq, ne_eq, Nat.reduceEqDiff, not_false_eq_true])) (stF_m s1 (by simp only [pvUp_nl, pvSt_ne, pvSt_eq, ne_eq, Nat.reduceEqDiff, not_false_eq_true]) (by simp only [pvUp_nl, pvSt_ne, pvSt_eq, ne_eq, Nat.reduceEqDiff, not_false_eq_true])) a1 a2 (by simp only [pvUp_nl, pvSt_ne, pvSt_eq, ne_eq, Nat.reduceEqDiff, not_false_eq_true]; exact g2)
        (repeat' (first | with_reducible apply And.intro | intro _))
        all_goals first
          | omega
          | exact hh
          | contradiction
          | skip
        all_goals first
          | (rename frF [5, 9, 36, 37] [] z _ => f1
             rw [f1.1 4 (by decide)]
             omega)
          | (rename frF [5, 9, 36, 37] [] z _ => f1
             rename reF z _ => r1
             rename stF z _ => s1
             rename btF _ _ = _ => e
             have h5 := h4 _ f1 r1 s1
             rw [← f1.1 4 (by decide), e] at h5
             exact h5)
    · have h3 := h1 hv
      (repeat' (first | with_reducible apply And.intro | intro _))
      all_goals first
        | omega
        | assumption
  · exact h.elim
def C_X9_setFinal : pvC
  | [.inr (.inr (.inl id)), .inl s, .inl q, .inl on], z, Q => id = 0 ∧ (hiF z ∧ WfC (z.1 2) ∧ WfC (z.1 4) ∧ (on = 0 ∨ on = 1)) ∧
      (¬ ((0 ≤ s ∧ s ≤ 1) ∧ 0 ≤ q ∧ q ≤ 3) → Q (.inr 0) z) ∧
      ((0 ≤ s ∧ s ≤ 1) ∧ (0 ≤ q ∧ q ≤ 3) → ∀ z' : pvM, frF [2, 4, 5, 9, 36, 37] [] z z' → reF z z' → stF z z' → autC (z'.1 (rwC s)) = fiA (autC (z.1 (rwC s))) (msF (autC (z.1 (rwC s))).2.2.1 q on) → WfC (z'.1 (rwC s)) → z'.1 (rwC (1 - s)) = z.1 (rwC (1 - s)) → Q (.inl (some (vI (if btF (autC (z.1 (rwC s))).2.2.1 q then 1 else 0)))) z')
  | _, _, _ => False
def bX9_setFinal : Nat → List (Instr × Nat)
  | 0 => [(.iload_n 1, 1), (.iconst 2, 1), (.invokestatic 97, 3), (.iload_n 2, 1), (.iconst 4, 1), (.invokestatic 97, 3), (.aload_n 0, 1), (.invokevirtual 112, 3), (.aload_n 0, 1), (.iload_n 1, 1), (.invokevirtual 104, 3), (.astore 4, 2), (.aload 4, 2), (.invokevirtual 140, 3), (.istore 5, 2), (.aload 4, 2), (.iload 5, 2), (.iload_n 2, 1), (.iload_n 3, 1), (.invokestatic 128, 3), (.invokevirtual 143, 3), (.iload 5, 2), (.iload_n 2, 1), (.invokestatic 136, 3), (.ireturn, 1)]
  | _ => []
def uX9_setFinal : Nat → Option (List Bool)
  | _ => none
def aX9_setFinal : pvCa
  | 97 => some (2, true, 0, 0, C_X9_requireIndex)
  | 104 => some (2, false, 8, 0, C_X9_automaton)
  | 112 => some (1, false, 8, 0, C_X9_beginChange)
  | 128 => some (3, true, 0, 0, C_X9_withState)
  | 136 => some (2, true, 0, 0, C_X9_hasState)
  | 140 => some (1, false, 0, 0, C_X0_finalStates)
  | 143 => some (2, false, 0, 0, C_X0_putFinalStates)
  | _ => none
theorem bX9_setFinal_0 : bX9_setFinal 0 = [(.iload_n 1, 1), (.iconst 2, 1), (.invokestatic 97, 3), (.iload_n 2, 1), (.iconst 4, 1), (.invokestatic 97, 3), (.aload_n 0, 1), (.invokevirtual 112, 3), (.aload_n 0, 1), (.iload_n 1, 1), (.invokevirtual 104, 3), (.astore 4, 2), (.aload 4, 2), (.invokevirtual 140, 3), (.istore 5, 2), (.aload 4, 2), (.iload 5, 2), (.iload_n 2, 1), (.iload_n 3, 1), (.invokestatic 128, 3), (.invokevirtual 143, 3), (.iload 5, 2), (.iload_n 2, 1), (.invokestatic 136, 3), (.ireturn, 1)] := rfl
theorem uX9_setFinal_0 : uX9_setFinal 0 = none := rfl
theorem aX9_setFinal_97 : aX9_setFinal 97 = some (2, true, 0, 0, C_X9_requireIndex) := rfl
theorem aX9_setFinal_104 : aX9_setFinal 104 = some (2, false, 8, 0, C_X9_automaton) := rfl
theorem aX9_setFinal_112 : aX9_setFinal 112 = some (1, false, 8, 0, C_X9_beginChange) := rfl
theorem aX9_setFinal_128 : aX9_setFinal 128 = some (3, true, 0, 0, C_X9_withState) := rfl
theorem aX9_setFinal_136 : aX9_setFinal 136 = some (2, true, 0, 0, C_X9_hasState) := rfl
theorem aX9_setFinal_140 : aX9_setFinal 140 = some (1, false, 0, 0, C_X0_finalStates) := rfl
theorem aX9_setFinal_143 : aX9_setFinal 143 = some (2, false, 0, 0, C_X0_putFinalStates) := rfl
set_option maxRecDepth 100000 in
set_option maxHeartbeats 4000000 in
theorem okX9_setFinal : pvOkM fX9 aX9_setFinal kX9 eX9 (some .boolean) bX9_setFinal uX9_setFinal 6 C_X9_setFinal := by
  intro Q SW hc as z h hS hz
  unfold C_X9_setFinal at h
  split at h
  · rename_i id s q on
    obtain ⟨rfl, ⟨hh, w2, w4, ho⟩, h1, h2⟩ := h
    refine ⟨Nat.le_of_ble_eq_true rfl, hc 20 _ _ _ fun _ _ => ?_⟩
    clear hc hS hz
    simp only [pvSt1]
    simp only [C_X9_requireIndex, C_X9_beginChange, C_X9_automaton, C_X0_finalStates, C_X0_putFinalStates, C_X9_withState, C_X9_hasState, pvE_iload_n1, pvLI_s, pvLd, pvE_iconst, pvE_invokestatic (h0 := eX9_97), pvC1_s, pvC2_s, pvAf_v, pvAf_x, pvPop, pvCs, pvCat, pvPush, aX9_setFinal_97, pvE_iload_n2, pvE_aload_n0, pvLA_s, pvE_invokevirtual, aX9_setFinal_112, pvSh_0, pvSh_1, pvSh_2, pvSh_3, pvSh_4, pvSh_5, pvSh_6, pvSh_7, pvSh_8, pvSh_9, pvSh_10, pvSh_11, pvSh_12, pvSh_13, pvSh_14, pvSh_15, pvSh_16, pvSh_17, pvSh_18, pvSh_19, pvSh_20, pvSh_21, pvSh_22, pvSh_23, pvSh_24, pvSh_25, pvSh_26, pvSh_27, pvSh_28, pvSh_29, pvSh_30, pvSh_31, pvSh_32, pvSh_33, pvSh_34, pvSh_35, pvSh_36, pvSh_37, pvSh_38, aX9_setFinal_104, pvE_astore, pvS1, List.length_cons, List.length_nil, pvClr_i, pvClr_r, pvClr_l, pvClr_d, pvClr_f, pvClr_n, pvE_aload, aX9_setFinal_140, pvE_istore, pvE_iload, pvE_iload_n3, pvE_invokestatic (h0 := eX9_128), aX9_setFinal_128, aX9_setFinal_143, pvE_invokestatic (h0 := eX9_136), aX9_setFinal_136, pvE_ireturn, bX9_setFinal_0, uX9_setFinal_0, pvRtG, pvRecv_r, pvUp_nl, pvUp_same, pvUp_ap, pvSt_ap, pvX_c, pvX_ms, pvX_mn, pvE_nil, pvEn_i, pvEn_r, pvEn_l, pvEn_0, pvEn_s, pvRt, pvRv, pvTh, pvKc, pvGo, pvTgt, Int.toNat_natCast, false_and, and_false, true_and, and_true, if_true, if_false, reduceIte, reduceCtorEq, forall_const, false_or, or_false, true_or, or_true, ne_eq, not_true_eq_false, not_false_eq_true, implies_true, false_implies, Nat.reduceAdd, Nat.reduceSub, Nat.reduceMul, Nat.reduceEqDiff, Nat.reduceLT, Nat.reduceLeDiff, Int.reduceAdd, Int.reduceSub, Int.reduceMul, Int.reduceNeg, Int.reduceToNat, Int.reduceLE, Int.reduceLT, Int.reduceEq, Int.reduceNe, and_self]
    by_cases hv : (0 ≤ s ∧ s ≤ 1) ∧ 0 ≤ q ∧ q ≤ 3
    · have h3 := h2 hv
      obtain ⟨hs, hq⟩ := hv
      rcases (show s = 0 ∨ s = 1 by omega) with rfl | rfl
      · have hb : 0 ≤ z.1 2 2 ∧ z.1 2 2 ≤ 15 := w2.1.2.2.1
        have hm := (msF_eq hb hq ho).2
        have h4 : ∀ z1 : pvM, frF [5, 9, 36, 37] [] z z1 → reF z z1 → stF z z1 → Q (.inl (some (vI (if btF (z.1 2 2) q then 1 else 0)))) (pvUp z1.1 2 2 (msF (z.1 2 2) q on), z1.2) := by
          intro z1 f1 r1 s1
          have g2 := f1.1 2 (by decide)
          have g4 := f1.1 4 (by decide)
          obtain ⟨a1, a2⟩ := fiC_of (g := pvUp z1.1 2 2 (msF (z.1 2 2) q on) 2) w2 hm (by simp [pvUp_ap]) (fun j hj => by rw [pvUp_ap, if_neg (by simp [hj]), g2])
          exact h3 (pvUp z1.1 2 2 (msF (z.1 2 2) q on), z1.2) (frF_u (frF_t frF_0 f1 (by decide) (by decide)) (by decide)) (reF_m r1 (by simp only [pvUp_nl, pvSt_ne, pvSt_eq, ne_eq, Nat.reduceEqDiff, not_false_eq_true]) (by simp only [pvUp_nl, pvSt_ne, pvSt_eq, ne_eq, Nat.reduceEqDiff, not_false_eq_true])) (stF_m s1 (by simp only [pvUp_nl, pvSt_ne, pvSt_eq, ne_eq, Nat.reduceEqDiff, not_false_eq_true]) (by simp only [pvUp_nl, pvSt_ne, pvSt_eq, ne_eq, Nat.reduceEqDiff, not_false_eq_true])) a1 a2 (by simp only [pvUp_nl, pvSt_ne, pvSt_eq, ne_eq, Nat.reduceEqDiff, not_false_eq_true]; exact g4)
        (repeat' (first | with_reducible apply And.intro | intro _))
        all_goals first
          | omega
          | exact hh
          | contradiction
          | skip
        all_goals first
          | (rename frF [5, 9, 36, 37] [] z _ => f1
             rw [f1.1 2 (by decide)]
             omega)
          | (rename frF [5, 9, 36, 37] [] z _ => f1
             rename reF z _ => r1
             rename stF z _ => s1
             rename btF _ _ = _ => e
             have h5 := h4 _ f1 r1 s1
             rw [← f1.1 2 (by decide), e] at h5
             exact h5)
      · have hb : 0 ≤ z.1 4 2 ∧ z.1 4 2 ≤ 15 := w4.1.2.2.1
        have hm := (msF_eq hb hq ho).2
        have h4 : ∀ z1 : pvM, frF [5, 9, 36, 37] [] z z1 → reF z z1 → stF z z1 → Q (.inl (some (vI (if btF (z.1 4 2) q then 1 else 0)))) (pvUp z1.1 4 2 (msF (z.1 4 2) q on), z1.2) := by
          intro z1 f1 r1 s1
          have g2 := f1.1 2 (by decide)
          have g4 := f1.1 4 (by decide)
          obtain ⟨a1, a2⟩ := fiC_of (g := pvUp z1.1 4 2 (msF (z.1 4 2) q on) 4) w4 hm (by simp [pvUp_ap]) (fun j hj => by rw [pvUp_ap, if_neg (by simp [hj]), g4])
          exact h3 (pvUp z1.1 4 2 (msF (z.1 4 2) q on), z1.2) (frF_u (frF_t frF_0 f1 (by decide) (by decide)) (by decide)) (reF_m r1 (by simp only [pvUp_nl, pvSt_ne, pvSt_eq, ne_eq, Nat.reduceEqDiff, not_false_eq_true]) (by simp only [pvUp_nl, pvSt_ne, pvSt_eq, ne_eq, Nat.reduceEqDiff, not_false_eq_true])) (stF_m s1 (by simp only [pvUp_nl, pvSt_ne, pvSt_eq, ne_eq, Nat.reduceEqDiff, not_false_eq_true]) (by simp only [pvUp_nl, pvSt_ne, pvSt_eq, ne_eq, Nat.reduceEqDiff, not_false_eq_true])) a1 a2 (by simp only [pvUp_nl, pvSt_ne, pvSt_eq, ne_eq, Nat.reduceEqDiff, not_false_eq_true]; exact g2)
        (repeat' (first | with_reducible apply And.intro | intro _))
        all_goals first
          | omega
          | exact hh
          | contradiction
          | skip
        all_goals first
          | (rename frF [5, 9, 36, 37] [] z _ => f1
             rw [f1.1 4 (by decide)]
             omega)
          | (rename frF [5, 9, 36, 37] [] z _ => f1
             rename reF z _ => r1
             rename stF z _ => s1
             rename btF _ _ = _ => e
             have h5 := h4 _ f1 r1 s1
             rw [← f1.1 4 (by decide), e] at h5
             exact h5)
    · have h3 := h1 hv
      (repeat' (first | with_reducible apply And.intro | intro _))
      all_goals first
        | omega
        | assumption
  · exact h.elim
