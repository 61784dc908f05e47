/-! the class: the other changes -/
def trC (z : pvM) (s t : Int) : Prop := (0 ≤ s ∧ s ≤ 1) ∧ 0 ≤ t ∧ t < (autC (z.1 (rwC s))).1
def C_X9_requireTransition : pvC
  | [.inr (.inr (.inl id)), .inl s, .inl t], z, Q => id = 0 ∧ (trC z s t → Q (.inl none) z) ∧ (¬ trC z s t → Q (.inr 0) z)
  | _, _, _ => False
def bX9_requireTransition : Nat → List (Instr × Nat)
  | 0 => [(.iload_n 1, 1), (.iconst 2, 1), (.invokestatic 97, 3), (.iload_n 2, 1), (.aload_n 0, 1), (.iload_n 1, 1), (.invokevirtual 104, 3), (.invokevirtual 108, 3), (.invokestatic 97, 3), (.return_, 1)]
  | _ => []
def uX9_requireTransition : Nat → Option (List Bool)
  | _ => none
def aX9_requireTransition : pvCa
  | 97 => some (2, true, 0, 0, C_X9_requireIndex)
  | 104 => some (2, false, 8, 0, C_X9_automaton)
  | 108 => some (1, false, 0, 0, C_X0_size)
  | _ => none
theorem bX9_requireTransition_0 : bX9_requireTransition 0 = [(.iload_n 1, 1), (.iconst 2, 1), (.invokestatic 97, 3), (.iload_n 2, 1), (.aload_n 0, 1), (.iload_n 1, 1), (.invokevirtual 104, 3), (.invokevirtual 108, 3), (.invokestatic 97, 3), (.return_, 1)] := rfl
theorem uX9_requireTransition_0 : uX9_requireTransition 0 = none := rfl
theorem aX9_requireTransition_97 : aX9_requireTransition 97 = some (2, true, 0, 0, C_X9_requireIndex) := rfl
theorem aX9_requireTransition_104 : aX9_requireTransition 104 = some (2, false, 8, 0, C_X9_automaton) := rfl
theorem aX9_requireTransition_108 : aX9_requireTransition 108 = some (1, false, 0, 0, C_X0_size) := rfl
def mX9_requireTransition : Room := { frames := 7, cells := 1, slots := 6, locals := 102 }
set_option maxRecDepth 100000 in
set_option maxHeartbeats 4000000 in
theorem okX9_requireTransition : pvOkM fX9 aX9_requireTransition kX9 eX9 none bX9_requireTransition uX9_requireTransition 3 C_X9_requireTransition := by
  intro Q SW hc as z h hS hz
  unfold C_X9_requireTransition at h
  split at h
  · rename_i id s t
    obtain ⟨rfl, h1, h2⟩ := h
    refine ⟨Nat.le_of_ble_eq_true rfl, hc 20 _ _ _ fun _ _ => ?_⟩
    clear hc hS hz
    simp only [pvSt1]
    simp only [C_X9_requireIndex, C_X9_automaton, C_X0_size, pvE_iload_n1, pvLI_s, pvLd, pvE_iconst, pvE_invokestatic (h0 := eX9_97), pvC1_s, pvC2_s, pvAf_v, pvAf_x, pvPop, pvCs, pvCat, pvPush, aX9_requireTransition_97, pvE_iload_n2, pvE_aload_n0, pvLA_s, pvE_invokevirtual, aX9_requireTransition_104, pvSh_0, pvSh_1, pvSh_2, pvSh_3, pvSh_4, pvSh_5, pvSh_6, pvSh_7, pvSh_8, pvSh_9, pvSh_10, pvSh_11, pvSh_12, pvSh_13, pvSh_14, pvSh_15, pvSh_16, pvSh_17, pvSh_18, pvSh_19, pvSh_20, pvSh_21, pvSh_22, pvSh_23, pvSh_24, pvSh_25, pvSh_26, pvSh_27, pvSh_28, pvSh_29, pvSh_30, pvSh_31, pvSh_32, pvSh_33, pvSh_34, pvSh_35, pvSh_36, pvSh_37, pvSh_38, pvSh_39, pvSh_40, pvSh_41, pvSh_42, pvSh_43, pvSh_44, pvSh_45, pvSh_46, pvSh_47, pvSh_48, pvSh_49, pvSh_50, pvSh_51, pvSh_52, pvSh_53, pvSh_54, pvSh_55, pvSh_56, pvSh_57, pvSh_58, pvSh_59, aX9_requireTransition_108, pvE_return, bX9_requireTransition_0, uX9_requireTransition_0, pvRecv_r, pvUp_nl, pvUp_same, pvUp_ap, pvSt_ap, pvX_c, pvX_ms, pvX_mn, pvE_nil, pvEn_i, pvEn_r, pvEn_l, pvEn_0, pvEn_s, pvRt, pvRv, pvTh, pvKc, pvGo, pvTgt, Int.toNat_natCast, false_and, and_false, true_and, and_true, if_true, if_false, reduceIte, reduceCtorEq, forall_const, false_or, or_false, true_or, or_true, ne_eq, not_true_eq_false, not_false_eq_true, implies_true, false_implies, Nat.reduceAdd, Nat.reduceSub, Nat.reduceMul, Nat.reduceEqDiff, Nat.reduceLT, Nat.reduceLeDiff, Int.reduceAdd, Int.reduceSub, Int.reduceMul, Int.reduceNeg, Int.reduceToNat, Int.reduceLE, Int.reduceLT, Int.reduceEq, Int.reduceNe, and_self]
    by_cases hs : 0 ≤ s ∧ s ≤ 1
    · rcases (show s = 0 ∨ s = 1 by omega) with rfl | rfl
      · have e : (autC (z.1 (rwC 0))).1 = z.1 2 0 := rfl
        by_cases hv : trC z 0 t
        · have h3 := h1 hv
          have hv2 := hv.2
          rw [e] at hv2
          (repeat' (first | with_reducible apply And.intro | intro _)) <;> first | omega | assumption
        · have h3 := h2 hv
          have hv2 : ¬ (0 ≤ t ∧ t < z.1 2 0) := fun q => hv ⟨hs, q⟩
          (repeat' (first | with_reducible apply And.intro | intro _)) <;> first | omega | assumption
      · have e : (autC (z.1 (rwC 1))).1 = z.1 4 0 := rfl
        by_cases hv : trC z 1 t
        · have h3 := h1 hv
          have hv2 := hv.2
          rw [e] at hv2
          (repeat' (first | with_reducible apply And.intro | intro _)) <;> first | omega | assumption
        · have h3 := h2 hv
          have hv2 : ¬ (0 ≤ t ∧ t < z.1 4 0) := fun q => hv ⟨hs, q⟩
          (repeat' (first | with_reducible apply And.intro | intro _)) <;> first | omega | assumption
    · have h3 := h2 (fun q => hs q.1)
      (repeat' (first | with_reducible apply And.intro | intro _)) <;> first | omega | assumption
  · exact h.elim
def C_X9_removeTransition : pvC
  | [.inr (.inr (.inl id)), .inl s, .inl t], z, Q => id = 0 ∧ (hiF z ∧ WfC (z.1 2) ∧ WfC (z.1 4)) ∧
      (¬ trC z s t → Q (.inr 0) z) ∧
      (trC z s t → ∀ z' : pvM, frF [2, 4, 5, 9, 36, 37] [] z z' → reF z z' → stF z z' → autC (z'.1 (rwC s)) = rmA (autC (z.1 (rwC s))) t.toNat → WfC (z'.1 (rwC s)) → z'.1 (rwC (1 - s)) = z.1 (rwC (1 - s)) → Q (.inl (some (vI ((autC (z.1 (rwC s))).1 - 1)))) z')
  | _, _, _ => False
def bX9_removeTransition : Nat → List (Instr × Nat)
  | 0 => [(.aload_n 0, 1), (.iload_n 1, 1), (.iload_n 2, 1), (.invokevirtual 119, 3), (.aload_n 0, 1), (.invokevirtual 112, 3), (.aload_n 0, 1), (.iload_n 1, 1), (.invokevirtual 104, 3), (.iload_n 2, 1), (.invokevirtual 122, 3), (.ireturn, 1)]
  | _ => []
def uX9_removeTransition : Nat → Option (List Bool)
  | _ => none
def aX9_removeTransition : pvCa
  | 104 => some (2, false, 8, 0, C_X9_automaton)
  | 112 => some (1, false, 8, 0, C_X9_beginChange)
  | 119 => some (3, false, 8, 0, C_X9_requireTransition)
  | 122 => some (2, false, 0, 0, C_X0_remove)
  | _ => none
theorem bX9_removeTransition_0 : bX9_removeTransition 0 = [(.aload_n 0, 1), (.iload_n 1, 1), (.iload_n 2, 1), (.invokevirtual 119, 3), (.aload_n 0, 1), (.invokevirtual 112, 3), (.aload_n 0, 1), (.iload_n 1, 1), (.invokevirtual 104, 3), (.iload_n 2, 1), (.invokevirtual 122, 3), (.ireturn, 1)] := rfl
theorem uX9_removeTransition_0 : uX9_removeTransition 0 = none := rfl
theorem aX9_removeTransition_104 : aX9_removeTransition 104 = some (2, false, 8, 0, C_X9_automaton) := rfl
theorem aX9_removeTransition_112 : aX9_removeTransition 112 = some (1, false, 8, 0, C_X9_beginChange) := rfl
theorem aX9_removeTransition_119 : aX9_removeTransition 119 = some (3, false, 8, 0, C_X9_requireTransition) := rfl
theorem aX9_removeTransition_122 : aX9_removeTransition 122 = some (2, false, 0, 0, C_X0_remove) := rfl
def mX9_removeTransition : Room := { frames := 8, cells := 1, slots := 6, locals := 124 }
set_option maxRecDepth 100000 in
set_option maxHeartbeats 4000000 in
theorem okX9_removeTransition : pvOkM fX9 aX9_removeTransition kX9 eX9 (some .int) bX9_removeTransition uX9_removeTransition 3 C_X9_removeTransition := by
  intro Q SW hc as z h hS hz
  unfold C_X9_removeTransition at h
  split at h
  · rename_i id s t
    obtain ⟨rfl, ⟨hh, w2, w4⟩, h1, h2⟩ := h
    refine ⟨Nat.le_of_ble_eq_true rfl, hc 20 _ _ _ fun _ _ => ?_⟩
    clear hc hS hz
    simp only [pvSt1]
    simp only [C_X9_requireTransition, C_X9_beginChange, C_X9_automaton, C_X0_remove, pvE_aload_n0, pvLA_s, pvLd, pvE_iload_n1, pvLI_s, pvE_iload_n2, pvE_invokevirtual, pvC1_s, pvC2_s, pvAf_v, pvAf_x, pvPop, pvCs, pvCat, pvPush, aX9_removeTransition_119, pvSh_0, pvSh_1, pvSh_2, pvSh_3, pvSh_4, pvSh_5, pvSh_6, pvSh_7, pvSh_8, pvSh_9, pvSh_10, pvSh_11, pvSh_12, pvSh_13, pvSh_14, pvSh_15, pvSh_16, pvSh_17, pvSh_18, pvSh_19, pvSh_20, pvSh_21, pvSh_22, pvSh_23, pvSh_24, pvSh_25, pvSh_26, pvSh_27, pvSh_28, pvSh_29, pvSh_30, pvSh_31, pvSh_32, pvSh_33, pvSh_34, pvSh_35, pvSh_36, pvSh_37, pvSh_38, pvSh_39, pvSh_40, pvSh_41, pvSh_42, pvSh_43, pvSh_44, pvSh_45, pvSh_46, pvSh_47, pvSh_48, pvSh_49, pvSh_50, pvSh_51, pvSh_52, pvSh_53, pvSh_54, pvSh_55, pvSh_56, pvSh_57, pvSh_58, pvSh_59, aX9_removeTransition_112, aX9_removeTransition_104, aX9_removeTransition_122, pvE_ireturn, bX9_removeTransition_0, uX9_removeTransition_0, pvRecv_r, pvUp_nl, pvUp_same, pvUp_ap, pvSt_ap, pvX_c, pvX_ms, pvX_mn, pvE_nil, pvEn_i, pvEn_r, pvEn_l, pvEn_0, pvEn_s, pvRt, pvRv, pvTh, pvKc, pvGo, pvTgt, Int.toNat_natCast, false_and, and_false, true_and, and_true, if_true, if_false, reduceIte, reduceCtorEq, forall_const, false_or, or_false, true_or, or_true, ne_eq, not_true_eq_false, not_false_eq_true, implies_true, false_implies, Nat.reduceAdd, Nat.reduceSub, Nat.reduceMul, Nat.reduceEqDiff, Nat.reduceLT, Nat.reduceLeDiff, Int.reduceAdd, Int.reduceSub, Int.reduceMul, Int.reduceNeg, Int.reduceToNat, Int.reduceLE, Int.reduceLT, Int.reduceEq, Int.reduceNe, and_self]
    refine ⟨fun hv => ⟨hh, fun z1 f1 r1 s1 => ?_⟩, h1⟩
    have h3 := h2 hv
    obtain ⟨hs, ht⟩ := hv
    have g2 := f1.1 2 (by decide)
    have g4 := f1.1 4 (by decide)
    have n2 : 0 ≤ z.1 2 0 ∧ z.1 2 0 ≤ 10 := w2.1.1
    have n4 : 0 ≤ z.1 4 0 ∧ z.1 4 0 ≤ 10 := w4.1.1
    obtain ⟨t, rfl⟩ : ∃ k : Nat, t = k := ⟨t.toNat, by omega⟩
    rw [Int.toNat_natCast] at h3
    rcases (show s = 0 ∨ s = 1 by omega) with rfl | rfl
    · have ht' : (t : Int) < z.1 2 0 := ht.2
      simp only [g2]
      (repeat' (first | with_reducible apply And.intro | intro _))
      all_goals first
        | omega
        | contradiction
        | skip
      all_goals
        rename_i g o1 o4
        obtain ⟨a1, a2⟩ := rmC_of (u := t) w2 ht' o1 (fun t' c' h1 h2 => by rw [o4 t' c' h1 h2]; simp only [Int.ofNat_le])
        exact h3 (pvSt z1.1 2 g, z1.2) (frF_s (frF_t frF_0 f1 (by decide) (by decide)) (by decide)) (reF_m r1 (by simp only [pvUp_nl, pvSt_ne, pvSt_eq, ne_eq, Nat.reduceEqDiff, not_false_eq_true]) (by simp only [pvUp_nl, pvSt_ne, pvSt_eq, ne_eq, Nat.reduceEqDiff, not_false_eq_true])) (stF_m s1 (by simp only [pvUp_nl, pvSt_ne, pvSt_eq, ne_eq, Nat.reduceEqDiff, not_false_eq_true]) (by simp only [pvUp_nl, pvSt_ne, pvSt_eq, ne_eq, Nat.reduceEqDiff, not_false_eq_true]))
            (by simp only [pvUp_nl, pvSt_ne, pvSt_eq, ne_eq, Nat.reduceEqDiff, not_false_eq_true]; exact a1) (by simp only [pvUp_nl, pvSt_ne, pvSt_eq, ne_eq, Nat.reduceEqDiff, not_false_eq_true]; exact a2) (by simp only [pvUp_nl, pvSt_ne, pvSt_eq, ne_eq, Nat.reduceEqDiff, not_false_eq_true]; exact g4)
    · have ht' : (t : Int) < z.1 4 0 := ht.2
      simp only [g4]
      (repeat' (first | with_reducible apply And.intro | intro _))
      all_goals first
        | omega
        | contradiction
        | skip
      all_goals
        rename_i g o1 o4
        obtain ⟨a1, a2⟩ := rmC_of (u := t) w4 ht' o1 (fun t' c' h1 h2 => by rw [o4 t' c' h1 h2]; simp only [Int.ofNat_le])
        exact h3 (pvSt z1.1 4 g, z1.2) (frF_s (frF_t frF_0 f1 (by decide) (by decide)) (by decide)) (reF_m r1 (by simp only [pvUp_nl, pvSt_ne, pvSt_eq, ne_eq, Nat.reduceEqDiff, not_false_eq_true]) (by simp only [pvUp_nl, pvSt_ne, pvSt_eq, ne_eq, Nat.reduceEqDiff, not_false_eq_true])) (stF_m s1 (by simp only [pvUp_nl, pvSt_ne, pvSt_eq, ne_eq, Nat.reduceEqDiff, not_false_eq_true]) (by simp only [pvUp_nl, pvSt_ne, pvSt_eq, ne_eq, Nat.reduceEqDiff, not_false_eq_true]))
            (by simp only [pvUp_nl, pvSt_ne, pvSt_eq, ne_eq, Nat.reduceEqDiff, not_false_eq_true]; exact a1) (by simp only [pvUp_nl, pvSt_ne, pvSt_eq, ne_eq, Nat.reduceEqDiff, not_false_eq_true]; exact a2) (by simp only [pvUp_nl, pvSt_ne, pvSt_eq, ne_eq, Nat.reduceEqDiff, not_false_eq_true]; exact g2)
  · exact h.elim
def C_X9_setInitial : pvC
  | [.inr (.inr (.inl id)), .inl s, .inl q, .inl on], z, Q => id = 0 ∧ (hiF z ∧ WfC (z.1 2) ∧ WfC (z.1 4) ∧ (on = 0 ∨ on = 1)) ∧
      (¬ ((0 ≤ s ∧ s ≤ 1) ∧ 0 ≤ q ∧ q ≤ 3) → Q (.inr 0) z) ∧
      ((0 ≤ s ∧ s ≤ 1) ∧ (0 ≤ q ∧ q ≤ 3) → ∀ z' : pvM, frF [2, 4, 5, 9, 36, 37] [] z z' → reF z z' → stF z z' → autC (z'.1 (rwC s)) = inA (autC (z.1 (rwC s))) (msF (autC (z.1 (rwC s))).2.1 q on) → WfC (z'.1 (rwC s)) → z'.1 (rwC (1 - s)) = z.1 (rwC (1 - s)) → Q (.inl (some (vI (if btF (autC (z.1 (rwC s))).2.1 q then 1 else 0)))) z')
  | _, _, _ => False
def bX9_setInitial : Nat → List (Instr × Nat)
  | 0 => [(.iload_n 1, 1), (.iconst 2, 1), (.invokestatic 97, 3), (.iload_n 2, 1), (.iconst 4, 1), (.invokestatic 97, 3), (.aload_n 0, 1), (.invokevirtual 112, 3), (.aload_n 0, 1), (.iload_n 1, 1), (.invokevirtual 104, 3), (.astore 4, 2), (.aload 4, 2), (.invokevirtual 125, 3), (.istore 5, 2), (.aload 4, 2), (.iload 5, 2), (.iload_n 2, 1), (.iload_n 3, 1), (.invokestatic 128, 3), (.invokevirtual 132, 3), (.iload 5, 2), (.iload_n 2, 1), (.invokestatic 136, 3), (.ireturn, 1)]
  | _ => []
def uX9_setInitial : Nat → Option (List Bool)
  | _ => none
def aX9_setInitial : pvCa
  | 97 => some (2, true, 0, 0, C_X9_requireIndex)
  | 104 => some (2, false, 8, 0, C_X9_automaton)
  | 112 => some (1, false, 8, 0, C_X9_beginChange)
  | 125 => some (1, false, 0, 0, C_X0_initialStates)
  | 128 => some (3, true, 0, 0, C_X9_withState)
  | 132 => some (2, false, 0, 0, C_X0_putInitialStates)
  | 136 => some (2, true, 0, 0, C_X9_hasState)
  | _ => none
theorem bX9_setInitial_0 : bX9_setInitial 0 = [(.iload_n 1, 1), (.iconst 2, 1), (.invokestatic 97, 3), (.iload_n 2, 1), (.iconst 4, 1), (.invokestatic 97, 3), (.aload_n 0, 1), (.invokevirtual 112, 3), (.aload_n 0, 1), (.iload_n 1, 1), (.invokevirtual 104, 3), (.astore 4, 2), (.aload 4, 2), (.invokevirtual 125, 3), (.istore 5, 2), (.aload 4, 2), (.iload 5, 2), (.iload_n 2, 1), (.iload_n 3, 1), (.invokestatic 128, 3), (.invokevirtual 132, 3), (.iload 5, 2), (.iload_n 2, 1), (.invokestatic 136, 3), (.ireturn, 1)] := rfl
theorem uX9_setInitial_0 : uX9_setInitial 0 = none := rfl
theorem aX9_setInitial_97 : aX9_setInitial 97 = some (2, true, 0, 0, C_X9_requireIndex) := rfl
theorem aX9_setInitial_104 : aX9_setInitial 104 = some (2, false, 8, 0, C_X9_automaton) := rfl
theorem aX9_setInitial_112 : aX9_setInitial 112 = some (1, false, 8, 0, C_X9_beginChange) := rfl
theorem aX9_setInitial_125 : aX9_setInitial 125 = some (1, false, 0, 0, C_X0_initialStates) := rfl
theorem aX9_setInitial_128 : aX9_setInitial 128 = some (3, true, 0, 0, C_X9_withState) := rfl
theorem aX9_setInitial_132 : aX9_setInitial 132 = some (2, false, 0, 0, C_X0_putInitialStates) := rfl
theorem aX9_setInitial_136 : aX9_setInitial 136 = some (2, true, 0, 0, C_X9_hasState) := rfl
def mX9_setInitial : Room := { frames := 7, cells := 1, slots := 6, locals := 104 }
set_option maxRecDepth 100000 in
set_option maxHeartbeats 4000000 in
theorem okX9_setInitial : pvOkM fX9 aX9_setInitial kX9 eX9 (some .boolean) bX9_setInitial uX9_setInitial 6 C_X9_setInitial := by
  intro Q SW hc as z h hS hz
  unfold C_X9_setInitial at h
  split at h
  · rename_i id s q on
    obtain ⟨rfl, ⟨hh, w2, w4, ho⟩, h1, h2⟩ := h
    refine ⟨Nat.le_of_ble_eq_true rfl, hc 20 _ _ _ fun _ _ => ?_⟩
    clear hc hS hz
    simp only [pvSt1]
    simp only [C_X9_requireIndex, C_X9_beginChange, C_X9_automaton, C_X0_initialStates, C_X0_putInitialStates, C_X9_withState, C_X9_hasState, pvE_iload_n1, pvLI_s, pvLd, pvE_iconst, pvE_invokestatic (h0 := eX9_97), pvC1_s, pvC2_s, pvAf_v, pvAf_x, pvPop, pvCs, pvCat, pvPush, aX9_setInitial_97, pvE_iload_n2, pvE_aload_n0, pvLA_s, pvE_invokevirtual, aX9_setInitial_112, pvSh_0, pvSh_1, pvSh_2, pvSh_3, pvSh_4, pvSh_5, pvSh_6, pvSh_7, pvSh_8, pvSh_9, pvSh_10, pvSh_11, pvSh_12, pvSh_13, pvSh_14, pvSh_15, pvSh_16, pvSh_17, pvSh_18, pvSh_19, pvSh_20, pvSh_21, pvSh_22, pvSh_23, pvSh_24, pvSh_25, pvSh_26, pvSh_27, pvSh_28, pvSh_29, pvSh_30, pvSh_31, pvSh_32, pvSh_33, pvSh_34, pvSh_35, pvSh_36, pvSh_37, pvSh_38, pvSh_39, pvSh_40, pvSh_41, pvSh_42, pvSh_43, pvSh_44, pvSh_45, pvSh_46, pvSh_47, pvSh_48, pvSh_49, pvSh_50, pvSh_51, pvSh_52, pvSh_53, pvSh_54, pvSh_55, pvSh_56, pvSh_57, pvSh_58, pvSh_59, aX9_setInitial_104, pvE_astore, pvS1, List.length_cons, List.length_nil, pvClr_i, pvClr_r, pvClr_l, pvClr_d, pvClr_f, pvClr_n, pvE_aload, aX9_setInitial_125, pvE_istore, pvE_iload, pvE_iload_n3, pvE_invokestatic (h0 := eX9_128), aX9_setInitial_128, aX9_setInitial_132, pvE_invokestatic (h0 := eX9_136), aX9_setInitial_136, pvE_ireturn, bX9_setInitial_0, uX9_setInitial_0, pvRecv_r, pvUp_nl, pvUp_same, pvUp_ap, pvSt_ap, pvX_c, pvX_ms, pvX_mn, pvE_nil, pvEn_i, pvEn_r, pvEn_l, pvEn_0, pvEn_s, pvRt, pvRv, pvTh, pvKc, pvGo, pvTgt, Int.toNat_natCast, false_and, and_false, true_and, and_true, if_true, if_false, reduceIte, reduceCtorEq, forall_const, false_or, or_false, true_or, or_true, ne_eq, not_true_eq_false, not_false_eq_true, implies_true, false_implies, Nat.reduceAdd, Nat.reduceSub, Nat.reduceMul, Nat.reduceEqDiff, Nat.reduceLT, Nat.reduceLeDiff, Int.reduceAdd, Int.reduceSub, Int.reduceMul, Int.reduceNeg, Int.reduceToNat, Int.reduceLE, Int.reduceLT, Int.reduceEq, Int.reduceNe, and_self]
    by_cases hv : (0 ≤ s ∧ s ≤ 1) ∧ 0 ≤ q ∧ q ≤ 3
    · have h3 := h2 hv
      obtain ⟨hs, hq⟩ := hv
      rcases (show s = 0 ∨ s = 1 by omega) with rfl | rfl
      · have hb : 0 ≤ z.1 2 1 ∧ z.1 2 1 ≤ 15 := w2.1.2.1
        have hm := (msF_eq hb hq ho).2
        have h4 : ∀ z1 : pvM, frF [5, 9, 36, 37] [] z z1 → reF z z1 → stF z z1 → Q (.inl (some (vI (if btF (z.1 2 1) q then 1 else 0)))) (pvUp z1.1 2 1 (msF (z.1 2 1) q on), z1.2) := by
          intro z1 f1 r1 s1
          have g2 := f1.1 2 (by decide)
          have g4 := f1.1 4 (by decide)
          obtain ⟨a1, a2⟩ := inC_of (g := pvUp z1.1 2 1 (msF (z.1 2 1) q on) 2) w2 hm (by simp [pvUp_ap]) (fun j hj => by rw [pvUp_ap, if_neg (by simp [hj]), g2])
          exact h3 (pvUp z1.1 2 1 (msF (z.1 2 1) q on), z1.2) (frF_u (frF_t frF_0 f1 (by decide) (by decide)) (by decide)) (reF_m r1 (by simp only [pvUp_nl, pvSt_ne, pvSt_eq, ne_eq, Nat.reduceEqDiff, not_false_eq_true]) (by simp only [pvUp_nl, pvSt_ne, pvSt_eq, ne_eq, Nat.reduceEqDiff, not_false_eq_true])) (stF_m s1 (by simp only [pvUp_nl, pvSt_ne, pvSt_eq, ne_eq, Nat.reduceEqDiff, not_false_eq_true]) (by simp only [pvUp_nl, pvSt_ne, pvSt_eq, ne_eq, Nat.reduceEqDiff, not_false_eq_true])) a1 a2 (by simp only [pvUp_nl, pvSt_ne, pvSt_eq, ne_eq, Nat.reduceEqDiff, not_false_eq_true]; exact g4)
        (repeat' (first | with_reducible apply And.intro | intro _))
        all_goals first
          | omega
          | exact hh
          | contradiction
          | skip
        all_goals first
          | (rename frF [5, 9, 36, 37] [] z _ => f1
             rw [f1.1 2 (by decide)]
             omega)
          | (rename frF [5, 9, 36, 37] [] z _ => f1
             rename reF z _ => r1
             rename stF z _ => s1
             rename btF _ _ = _ => e
             have h5 := h4 _ f1 r1 s1
             rw [← f1.1 2 (by decide), e] at h5
             exact h5)
      · have hb : 0 ≤ z.1 4 1 ∧ z.1 4 1 ≤ 15 := w4.1.2.1
        have hm := (msF_eq hb hq ho).2
        have h4 : ∀ z1 : pvM, frF [5, 9, 36, 37] [] z z1 → reF z z1 → stF z z1 → Q (.inl (some (vI (if btF (z.1 4 1) q then 1 else 0)))) (pvUp z1.1 4 1 (msF (z.1 4 1) q on), z1.2) := by
          intro z1 f1 r1 s1
          have g2 := f1.1 2 (by decide)
          have g4 := f1.1 4 (by decide)
          obtain ⟨a1, a2⟩ := inC_of (g := pvUp z1.1 4 1 (msF (z.1 4 1) q on) 4) w4 hm (by simp [pvUp_ap]) (fun j hj => by rw [pvUp_ap, if_neg (by simp [hj]), g4])
          exact h3 (pvUp z1.1 4 1 (msF (z.1 4 1) q on), z1.2) (frF_u (frF_t frF_0 f1 (by decide) (by decide)) (by decide)) (reF_m r1 (by simp only [pvUp_nl, pvSt_ne, pvSt_eq, ne_eq, Nat.reduceEqDiff, not_false_eq_true]) (by simp only [pvUp_nl, pvSt_ne, pvSt_eq, ne_eq, Nat.reduceEqDiff, not_false_eq_true])) (stF_m s1 (by simp only [pvUp_nl, pvSt_ne, pvSt_eq, ne_eq, Nat.reduceEqDiff, not_false_eq_true]) (by simp only [pvUp_nl, pvSt_ne, pvSt_eq, ne_eq, Nat.reduceEqDiff, not_false_eq_true])) a1 a2 (by simp only [pvUp_nl, pvSt_ne, pvSt_eq, ne_eq, Nat.reduceEqDiff, not_false_eq_true]; exact g2)
        (repeat' (first | with_reducible apply And.intro | intro _))
        all_goals first
          | omega
          | exact hh
          | contradiction
          | skip
        all_goals first
          | (rename frF [5, 9, 36, 37] [] z _ => f1
             rw [f1.1 4 (by decide)]
             omega)
          | (rename frF [5, 9, 36, 37] [] z _ => f1
             rename reF z _ => r1
             rename stF z _ => s1
             rename btF _ _ = _ => e
             have h5 := h4 _ f1 r1 s1
             rw [← f1.1 4 (by decide), e] at h5
             exact h5)
    · have h3 := h1 hv
      (repeat' (first | with_reducible apply And.intro | intro _))
      all_goals first
        | omega
        | assumption
  · exact h.elim
def C_X9_setFinal : pvC
  | [.inr (.inr (.inl id)), .inl s, .inl q, .inl on], z, Q => id = 0 ∧ (hiF z ∧ WfC (z.1 2) ∧ WfC (z.1 4) ∧ (on = 0 ∨ on = 1)) ∧
      (¬ ((0 ≤ s ∧ s ≤ 1) ∧ 0 ≤ q ∧ q ≤ 3) → Q (.inr 0) z) ∧
      ((0 ≤ s ∧ s ≤ 1) ∧ (0 ≤ q ∧ q ≤ 3) → ∀ z' : pvM, frF [2, 4, 5, 9, 36, 37] [] z z' → reF z z' → stF z z' → autC (z'.1 (rwC s)) = fiA (autC (z.1 (rwC s))) (msF (autC (z.1 (rwC s))).2.2.1 q on) → WfC (z'.1 (rwC s)) → z'.1 (rwC (1 - s)) = z.1 (rwC (1 - s)) → Q (.inl (some (vI (if btF (autC (z.1 (rwC s))).2.2.1 q then 1 else 0)))) z')
  | _, _, _ => False
def bX9_setFinal : Nat → List (Instr × Nat)
  | 0 => [(.iload_n 1, 1), (.iconst 2, 1), (.invokestatic 97, 3), (.iload_n 2, 1), (.iconst 4, 1), (.invokestatic 97, 3), (.aload_n 0, 1), (.invokevirtual 112, 3), (.aload_n 0, 1), (.iload_n 1, 1), (.invokevirtual 104, 3), (.astore 4, 2), (.aload 4, 2), (.invokevirtual 140, 3), (.istore 5, 2), (.aload 4, 2), (.iload 5, 2), (.iload_n 2, 1), (.iload_n 3, 1), (.invokestatic 128, 3), (.invokevirtual 143, 3), (.iload 5, 2), (.iload_n 2, 1), (.invokestatic 136, 3), (.ireturn, 1)]
  | _ => []
def uX9_setFinal : Nat → Option (List Bool)
  | _ => none
def aX9_setFinal : pvCa
  | 97 => some (2, true, 0, 0, C_X9_requireIndex)
  | 104 => some (2, false, 8, 0, C_X9_automaton)
  | 112 => some (1, false, 8, 0, C_X9_beginChange)
  | 128 => some (3, true, 0, 0, C_X9_withState)
  | 136 => some (2, true, 0, 0, C_X9_hasState)
  | 140 => some (1, false, 0, 0, C_X0_finalStates)
  | 143 => some (2, false, 0, 0, C_X0_putFinalStates)
  | _ => none
theorem bX9_setFinal_0 : bX9_setFinal 0 = [(.iload_n 1, 1), (.iconst 2, 1), (.invokestatic 97, 3), (.iload_n 2, 1), (.iconst 4, 1), (.invokestatic 97, 3), (.aload_n 0, 1), (.invokevirtual 112, 3), (.aload_n 0, 1), (.iload_n 1, 1), (.invokevirtual 104, 3), (.astore 4, 2), (.aload 4, 2), (.invokevirtual 140, 3), (.istore 5, 2), (.aload 4, 2), (.iload 5, 2), (.iload_n 2, 1), (.iload_n 3, 1), (.invokestatic 128, 3), (.invokevirtual 143, 3), (.iload 5, 2), (.iload_n 2, 1), (.invokestatic 136, 3), (.ireturn, 1)] := rfl
theorem uX9_setFinal_0 : uX9_setFinal 0 = none := rfl
theorem aX9_setFinal_97 : aX9_setFinal 97 = some (2, true, 0, 0, C_X9_requireIndex) := rfl
theorem aX9_setFinal_104 : aX9_setFinal 104 = some (2, false, 8, 0, C_X9_automaton) := rfl
theorem aX9_setFinal_112 : aX9_setFinal 112 = some (1, false, 8, 0, C_X9_beginChange) := rfl
theorem aX9_setFinal_128 : aX9_setFinal 128 = some (3, true, 0, 0, C_X9_withState) := rfl
theorem aX9_setFinal_136 : aX9_setFinal 136 = some (2, true, 0, 0, C_X9_hasState) := rfl
theorem aX9_setFinal_140 : aX9_setFinal 140 = some (1, false, 0, 0, C_X0_finalStates) := rfl
theorem aX9_setFinal_143 : aX9_setFinal 143 = some (2, false, 0, 0, C_X0_putFinalStates) := rfl
def mX9_setFinal : Room := { frames := 7, cells := 1, slots := 6, locals := 104 }
set_option maxRecDepth 100000 in
set_option maxHeartbeats 4000000 in
theorem okX9_setFinal : pvOkM fX9 aX9_setFinal kX9 eX9 (some .boolean) bX9_setFinal uX9_setFinal 6 C_X9_setFinal := by
  intro Q SW hc as z h hS hz
  unfold C_X9_setFinal at h
  split at h
  · rename_i id s q on
    obtain ⟨rfl, ⟨hh, w2, w4, ho⟩, h1, h2⟩ := h
    refine ⟨Nat.le_of_ble_eq_true rfl, hc 20 _ _ _ fun _ _ => ?_⟩
    clear hc hS hz
    simp only [pvSt1]
    simp only [C_X9_requireIndex, C_X9_beginChange, C_X9_automaton, C_X0_finalStates, C_X0_putFinalStates, C_X9_withState, C_X9_hasState, pvE_iload_n1, pvLI_s, pvLd, pvE_iconst, pvE_invokestatic (h0 := eX9_97), pvC1_s, pvC2_s, pvAf_v, pvAf_x, pvPop, pvCs, pvCat, pvPush, aX9_setFinal_97, pvE_iload_n2, pvE_aload_n0, pvLA_s, pvE_invokevirtual, aX9_setFinal_112, pvSh_0, pvSh_1, pvSh_2, pvSh_3, pvSh_4, pvSh_5, pvSh_6, pvSh_7, pvSh_8, pvSh_9, pvSh_10, pvSh_11, pvSh_12, pvSh_13, pvSh_14, pvSh_15, pvSh_16, pvSh_17, pvSh_18, pvSh_19, pvSh_20, pvSh_21, pvSh_22, pvSh_23, pvSh_24, pvSh_25, pvSh_26, pvSh_27, pvSh_28, pvSh_29, pvSh_30, pvSh_31, pvSh_32, pvSh_33, pvSh_34, pvSh_35, pvSh_36, pvSh_37, pvSh_38, pvSh_39, pvSh_40, pvSh_41, pvSh_42, pvSh_43, pvSh_44, pvSh_45, pvSh_46, pvSh_47, pvSh_48, pvSh_49, pvSh_50, pvSh_51, pvSh_52, pvSh_53, pvSh_54, pvSh_55, pvSh_56, pvSh_57, pvSh_58, pvSh_59, aX9_setFinal_104, pvE_astore, pvS1, List.length_cons, List.length_nil, pvClr_i, pvClr_r, pvClr_l, pvClr_d, pvClr_f, pvClr_n, pvE_aload, aX9_setFinal_140, pvE_istore, pvE_iload, pvE_iload_n3, pvE_invokestatic (h0 := eX9_128), aX9_setFinal_128, aX9_setFinal_143, pvE_invokestatic (h0 := eX9_136), aX9_setFinal_136, pvE_ireturn, bX9_setFinal_0, uX9_setFinal_0, pvRecv_r, pvUp_nl, pvUp_same, pvUp_ap, pvSt_ap, pvX_c, pvX_ms, pvX_mn, pvE_nil, pvEn_i, pvEn_r, pvEn_l, pvEn_0, pvEn_s, pvRt, pvRv, pvTh, pvKc, pvGo, pvTgt, Int.toNat_natCast, false_and, and_false, true_and, and_true, if_true, if_false, reduceIte, reduceCtorEq, forall_const, false_or, or_false, true_or, or_true, ne_eq, not_true_eq_false, not_false_eq_true, implies_true, false_implies, Nat.reduceAdd, Nat.reduceSub, Nat.reduceMul, Nat.reduceEqDiff, Nat.reduceLT, Nat.reduceLeDiff, Int.reduceAdd, Int.reduceSub, Int.reduceMul, Int.reduceNeg, Int.reduceToNat, Int.reduceLE, Int.reduceLT, Int.reduceEq, Int.reduceNe, and_self]
    by_cases hv : (0 ≤ s ∧ s ≤ 1) ∧ 0 ≤ q ∧ q ≤ 3
    · have h3 := h2 hv
      obtain ⟨hs, hq⟩ := hv
      rcases (show s = 0 ∨ s = 1 by omega) with rfl | rfl
      · have hb : 0 ≤ z.1 2 2 ∧ z.1 2 2 ≤ 15 := w2.1.2.2.1
        have hm := (msF_eq hb hq ho).2
        have h4 : ∀ z1 : pvM, frF [5, 9, 36, 37] [] z z1 → reF z z1 → stF z z1 → Q (.inl (some (vI (if btF (z.1 2 2) q then 1 else 0)))) (pvUp z1.1 2 2 (msF (z.1 2 2) q on), z1.2) := by
          intro z1 f1 r1 s1
          have g2 := f1.1 2 (by decide)
          have g4 := f1.1 4 (by decide)
          obtain ⟨a1, a2⟩ := fiC_of (g := pvUp z1.1 2 2 (msF (z.1 2 2) q on) 2) w2 hm (by simp [pvUp_ap]) (fun j hj => by rw [pvUp_ap, if_neg (by simp [hj]), g2])
          exact h3 (pvUp z1.1 2 2 (msF (z.1 2 2) q on), z1.2) (frF_u (frF_t frF_0 f1 (by decide) (by decide)) (by decide)) (reF_m r1 (by simp only [pvUp_nl, pvSt_ne, pvSt_eq, ne_eq, Nat.reduceEqDiff, not_false_eq_true]) (by simp only [pvUp_nl, pvSt_ne, pvSt_eq, ne_eq, Nat.reduceEqDiff, not_false_eq_true])) (stF_m s1 (by simp only [pvUp_nl, pvSt_ne, pvSt_eq, ne_eq, Nat.reduceEqDiff, not_false_eq_true]) (by simp only [pvUp_nl, pvSt_ne, pvSt_eq, ne_eq, Nat.reduceEqDiff, not_false_eq_true])) a1 a2 (by simp only [pvUp_nl, pvSt_ne, pvSt_eq, ne_eq, Nat.reduceEqDiff, not_false_eq_true]; exact g4)
        (repeat' (first | with_reducible apply And.intro | intro _))
        all_goals first
          | omega
          | exact hh
          | contradiction
          | skip
        all_goals first
          | (rename frF [5, 9, 36, 37] [] z _ => f1
             rw [f1.1 2 (by decide)]
             omega)
          | (rename frF [5, 9, 36, 37] [] z _ => f1
             rename reF z _ => r1
             rename stF z _ => s1
             rename btF _ _ = _ => e
             have h5 := h4 _ f1 r1 s1
             rw [← f1.1 2 (by decide), e] at h5
             exact h5)
      · have hb : 0 ≤ z.1 4 2 ∧ z.1 4 2 ≤ 15 := w4.1.2.2.1
        have hm := (msF_eq hb hq ho).2
        have h4 : ∀ z1 : pvM, frF [5, 9, 36, 37] [] z z1 → reF z z1 → stF z z1 → Q (.inl (some (vI (if btF (z.1 4 2) q then 1 else 0)))) (pvUp z1.1 4 2 (msF (z.1 4 2) q on), z1.2) := by
          intro z1 f1 r1 s1
          have g2 := f1.1 2 (by decide)
          have g4 := f1.1 4 (by decide)
          obtain ⟨a1, a2⟩ := fiC_of (g := pvUp z1.1 4 2 (msF (z.1 4 2) q on) 4) w4 hm (by simp [pvUp_ap]) (fun j hj => by rw [pvUp_ap, if_neg (by simp [hj]), g4])
          exact h3 (pvUp z1.1 4 2 (msF (z.1 4 2) q on), z1.2) (frF_u (frF_t frF_0 f1 (by decide) (by decide)) (by decide)) (reF_m r1 (by simp only [pvUp_nl, pvSt_ne, pvSt_eq, ne_eq, Nat.reduceEqDiff, not_false_eq_true]) (by simp only [pvUp_nl, pvSt_ne, pvSt_eq, ne_eq, Nat.reduceEqDiff, not_false_eq_true])) (stF_m s1 (by simp only [pvUp_nl, pvSt_ne, pvSt_eq, ne_eq, Nat.reduceEqDiff, not_false_eq_true]) (by simp only [pvUp_nl, pvSt_ne, pvSt_eq, ne_eq, Nat.reduceEqDiff, not_false_eq_true])) a1 a2 (by simp only [pvUp_nl, pvSt_ne, pvSt_eq, ne_eq, Nat.reduceEqDiff, not_false_eq_true]; exact g2)
        (repeat' (first | with_reducible apply And.intro | intro _))
        all_goals first
          | omega
          | exact hh
          | contradiction
          | skip
        all_goals first
          | (rename frF [5, 9, 36, 37] [] z _ => f1
             rw [f1.1 4 (by decide)]
             omega)
          | (rename frF [5, 9, 36, 37] [] z _ => f1
             rename reF z _ => r1
             rename stF z _ => s1
             rename btF _ _ = _ => e
             have h5 := h4 _ f1 r1 s1
             rw [← f1.1 4 (by decide), e] at h5
             exact h5)
    · have h3 := h1 hv
      (repeat' (first | with_reducible apply And.intro | intro _))
      all_goals first
        | omega
        | assumption
  · exact h.elim
def C_X9_copyAutomaton : pvC
  | [.inr (.inr (.inl id)), .inl s], z, Q => id = 0 ∧ (hiF z ∧ WfC (z.1 2) ∧ WfC (z.1 4)) ∧
      (¬ (0 ≤ s ∧ s ≤ 1) → Q (.inr 0) z) ∧
      (0 ≤ s ∧ s ≤ 1 → ∀ z' : pvM, frF [2, 4, 5, 9, 36, 37] [] z z' → reF z z' → stF z z' → (∀ c, c = 2 ∨ c = 4 → autC (z'.1 c) = autC (z.1 (rwC s)) ∧ WfC (z'.1 c)) → Q (.inl none) z')
  | _, _, _ => False
def bX9_copyAutomaton : Nat → List (Instr × Nat)
  | 0 => [(.iload_n 1, 1), (.iconst 2, 1), (.invokestatic 97, 3), (.aload_n 0, 1), (.invokevirtual 112, 3), (.aload_n 0, 1), (.iconst 1, 1), (.iload_n 1, 1), (.isub, 1), (.invokevirtual 104, 3), (.aload_n 0, 1), (.iload_n 1, 1), (.invokevirtual 104, 3), (.invokevirtual 146, 3), (.return_, 1)]
  | _ => []
def uX9_copyAutomaton : Nat → Option (List Bool)
  | _ => none
def aX9_copyAutomaton : pvCa
  | 97 => some (2, true, 0, 0, C_X9_requireIndex)
  | 104 => some (2, false, 8, 0, C_X9_automaton)
  | 112 => some (1, false, 8, 0, C_X9_beginChange)
  | 146 => some (2, false, 0, 0, C_X0_become)
  | _ => none
theorem bX9_copyAutomaton_0 : bX9_copyAutomaton 0 = [(.iload_n 1, 1), (.iconst 2, 1), (.invokestatic 97, 3), (.aload_n 0, 1), (.invokevirtual 112, 3), (.aload_n 0, 1), (.iconst 1, 1), (.iload_n 1, 1), (.isub, 1), (.invokevirtual 104, 3), (.aload_n 0, 1), (.iload_n 1, 1), (.invokevirtual 104, 3), (.invokevirtual 146, 3), (.return_, 1)] := rfl
theorem uX9_copyAutomaton_0 : uX9_copyAutomaton 0 = none := rfl
theorem aX9_copyAutomaton_97 : aX9_copyAutomaton 97 = some (2, true, 0, 0, C_X9_requireIndex) := rfl
theorem aX9_copyAutomaton_104 : aX9_copyAutomaton 104 = some (2, false, 8, 0, C_X9_automaton) := rfl
theorem aX9_copyAutomaton_112 : aX9_copyAutomaton 112 = some (1, false, 8, 0, C_X9_beginChange) := rfl
theorem aX9_copyAutomaton_146 : aX9_copyAutomaton 146 = some (2, false, 0, 0, C_X0_become) := rfl
def mX9_copyAutomaton : Room := { frames := 7, cells := 1, slots := 6, locals := 104 }
set_option maxRecDepth 100000 in
set_option maxHeartbeats 4000000 in
theorem okX9_copyAutomaton : pvOkM fX9 aX9_copyAutomaton kX9 eX9 none bX9_copyAutomaton uX9_copyAutomaton 2 C_X9_copyAutomaton := by
  intro Q SW hc as z h hS hz
  unfold C_X9_copyAutomaton at h
  split at h
  · rename_i id s
    obtain ⟨rfl, ⟨hh, w2, w4⟩, h1, h2⟩ := h
    refine ⟨Nat.le_of_ble_eq_true rfl, hc 20 _ _ _ fun _ _ => ?_⟩
    clear hc hS hz
    simp only [pvSt1]
    simp only [C_X9_requireIndex, C_X9_beginChange, C_X9_automaton, C_X0_become, pvE_iload_n1, pvLI_s, pvLd, pvE_iconst, pvE_invokestatic (h0 := eX9_97), pvC1_s, pvC2_s, pvAf_v, pvAf_x, pvPop, pvCs, pvCat, pvPush, aX9_copyAutomaton_97, pvE_aload_n0, pvLA_s, pvE_invokevirtual, aX9_copyAutomaton_112, pvSh_0, pvSh_1, pvSh_2, pvSh_3, pvSh_4, pvSh_5, pvSh_6, pvSh_7, pvSh_8, pvSh_9, pvSh_10, pvSh_11, pvSh_12, pvSh_13, pvSh_14, pvSh_15, pvSh_16, pvSh_17, pvSh_18, pvSh_19, pvSh_20, pvSh_21, pvSh_22, pvSh_23, pvSh_24, pvSh_25, pvSh_26, pvSh_27, pvSh_28, pvSh_29, pvSh_30, pvSh_31, pvSh_32, pvSh_33, pvSh_34, pvSh_35, pvSh_36, pvSh_37, pvSh_38, pvSh_39, pvSh_40, pvSh_41, pvSh_42, pvSh_43, pvSh_44, pvSh_45, pvSh_46, pvSh_47, pvSh_48, pvSh_49, pvSh_50, pvSh_51, pvSh_52, pvSh_53, pvSh_54, pvSh_55, pvSh_56, pvSh_57, pvSh_58, pvSh_59, pvE_isub, aX9_copyAutomaton_104, aX9_copyAutomaton_146, pvE_return, bX9_copyAutomaton_0, uX9_copyAutomaton_0, pvRecv_r, pvUp_nl, pvUp_same, pvUp_ap, pvSt_ap, pvX_c, pvX_ms, pvX_mn, pvE_nil, pvEn_i, pvEn_r, pvEn_l, pvEn_0, pvEn_s, pvRt, pvRv, pvTh, pvKc, pvGo, pvTgt, Int.toNat_natCast, false_and, and_false, true_and, and_true, if_true, if_false, reduceIte, reduceCtorEq, forall_const, false_or, or_false, true_or, or_true, ne_eq, not_true_eq_false, not_false_eq_true, implies_true, false_implies, Nat.reduceAdd, Nat.reduceSub, Nat.reduceMul, Nat.reduceEqDiff, Nat.reduceLT, Nat.reduceLeDiff, Int.reduceAdd, Int.reduceSub, Int.reduceMul, Int.reduceNeg, Int.reduceToNat, Int.reduceLE, Int.reduceLT, Int.reduceEq, Int.reduceNe, and_self]
    by_cases hs : 0 ≤ s ∧ s ≤ 1
    · have h3 := h2 hs
      rcases (show s = 0 ∨ s = 1 by omega) with rfl | rfl
      · (repeat' (first | with_reducible apply And.intro | intro _))
        all_goals first
          | omega
          | exact hh
          | contradiction
          | skip
        all_goals
          rename frF [5, 9, 36, 37] [] z _ => f1
          rename reF z _ => r1
          rename stF z _ => s1
          rename_i g o1
          have g2 := f1.1 2 (by decide)
          rw [g2] at o1
          obtain ⟨a1, a2⟩ := autC_ext w2 o1
          refine h3 _ (frF_s (frF_t frF_0 f1 (by decide) (by decide)) (by decide)) (reF_m r1 (by simp only [pvUp_nl, pvSt_ne, pvSt_eq, ne_eq, Nat.reduceEqDiff, not_false_eq_true]) (by simp only [pvUp_nl, pvSt_ne, pvSt_eq, ne_eq, Nat.reduceEqDiff, not_false_eq_true])) (stF_m s1 (by simp only [pvUp_nl, pvSt_ne, pvSt_eq, ne_eq, Nat.reduceEqDiff, not_false_eq_true]) (by simp only [pvUp_nl, pvSt_ne, pvSt_eq, ne_eq, Nat.reduceEqDiff, not_false_eq_true])) ?_
          rintro x (rfl | rfl)
          all_goals simp only [pvUp_nl, pvSt_ne, pvSt_eq, ne_eq, Nat.reduceEqDiff, not_false_eq_true]
          all_goals first
            | exact ⟨a1, a2⟩
            | (rw [g2]; exact ⟨rfl, w2⟩)
      · (repeat' (first | with_reducible apply And.intro | intro _))
        all_goals first
          | omega
          | exact hh
          | contradiction
          | skip
        all_goals
          rename frF [5, 9, 36, 37] [] z _ => f1
          rename reF z _ => r1
          rename stF z _ => s1
          rename_i g o1
          have g4 := f1.1 4 (by decide)
          rw [g4] at o1
          obtain ⟨a1, a2⟩ := autC_ext w4 o1
          refine h3 _ (frF_s (frF_t frF_0 f1 (by decide) (by decide)) (by decide)) (reF_m r1 (by simp only [pvUp_nl, pvSt_ne, pvSt_eq, ne_eq, Nat.reduceEqDiff, not_false_eq_true]) (by simp only [pvUp_nl, pvSt_ne, pvSt_eq, ne_eq, Nat.reduceEqDiff, not_false_eq_true])) (stF_m s1 (by simp only [pvUp_nl, pvSt_ne, pvSt_eq, ne_eq, Nat.reduceEqDiff, not_false_eq_true]) (by simp only [pvUp_nl, pvSt_ne, pvSt_eq, ne_eq, Nat.reduceEqDiff, not_false_eq_true])) ?_
          rintro x (rfl | rfl)
          all_goals simp only [pvUp_nl, pvSt_ne, pvSt_eq, ne_eq, Nat.reduceEqDiff, not_false_eq_true]
          all_goals first
            | exact ⟨a1, a2⟩
            | (rw [g4]; exact ⟨rfl, w4⟩)
    · have h3 := h1 hs
      (repeat' (first | with_reducible apply And.intro | intro _))
      all_goals first
        | omega
        | assumption
  · exact h.elim
def C_X9_clearAutomaton : pvC
  | [.inr (.inr (.inl id)), .inl s], z, Q => id = 0 ∧ (hiF z ∧ WfC (z.1 2) ∧ WfC (z.1 4)) ∧
      (¬ (0 ≤ s ∧ s ≤ 1) → Q (.inr 0) z) ∧
      (0 ≤ s ∧ s ≤ 1 → ∀ z' : pvM, frF [2, 4, 5, 9, 36, 37] [] z z' → reF z z' → stF z z' → autC (z'.1 (rwC s)) = clA → WfC (z'.1 (rwC s)) → z'.1 (rwC (1 - s)) = z.1 (rwC (1 - s)) → Q (.inl none) z')
  | _, _, _ => False
def bX9_clearAutomaton : Nat → List (Instr × Nat)
  | 0 => [(.iload_n 1, 1), (.iconst 2, 1), (.invokestatic 97, 3), (.aload_n 0, 1), (.invokevirtual 112, 3), (.aload_n 0, 1), (.iload_n 1, 1), (.invokevirtual 104, 3), (.invokevirtual 150, 3), (.return_, 1)]
  | _ => []
def uX9_clearAutomaton : Nat → Option (List Bool)
  | _ => none
def aX9_clearAutomaton : pvCa
  | 97 => some (2, true, 0, 0, C_X9_requireIndex)
  | 104 => some (2, false, 8, 0, C_X9_automaton)
  | 112 => some (1, false, 8, 0, C_X9_beginChange)
  | 150 => some (1, false, 0, 0, C_X0_reset)
  | _ => none
theorem bX9_clearAutomaton_0 : bX9_clearAutomaton 0 = [(.iload_n 1, 1), (.iconst 2, 1), (.invokestatic 97, 3), (.aload_n 0, 1), (.invokevirtual 112, 3), (.aload_n 0, 1), (.iload_n 1, 1), (.invokevirtual 104, 3), (.invokevirtual 150, 3), (.return_, 1)] := rfl
theorem uX9_clearAutomaton_0 : uX9_clearAutomaton 0 = none := rfl
theorem aX9_clearAutomaton_97 : aX9_clearAutomaton 97 = some (2, true, 0, 0, C_X9_requireIndex) := rfl
theorem aX9_clearAutomaton_104 : aX9_clearAutomaton 104 = some (2, false, 8, 0, C_X9_automaton) := rfl
theorem aX9_clearAutomaton_112 : aX9_clearAutomaton 112 = some (1, false, 8, 0, C_X9_beginChange) := rfl
theorem aX9_clearAutomaton_150 : aX9_clearAutomaton 150 = some (1, false, 0, 0, C_X0_reset) := rfl
def mX9_clearAutomaton : Room := { frames := 7, cells := 1, slots := 6, locals := 104 }
set_option maxRecDepth 100000 in
set_option maxHeartbeats 4000000 in
theorem okX9_clearAutomaton : pvOkM fX9 aX9_clearAutomaton kX9 eX9 none bX9_clearAutomaton uX9_clearAutomaton 2 C_X9_clearAutomaton := by
  intro Q SW hc as z h hS hz
  unfold C_X9_clearAutomaton at h
  split at h
  · rename_i id s
    obtain ⟨rfl, ⟨hh, w2, w4⟩, h1, h2⟩ := h
    refine ⟨Nat.le_of_ble_eq_true rfl, hc 20 _ _ _ fun _ _ => ?_⟩
    clear hc hS hz
    simp only [pvSt1]
    simp only [C_X9_requireIndex, C_X9_beginChange, C_X9_automaton, C_X0_reset, pvE_iload_n1, pvLI_s, pvLd, pvE_iconst, pvE_invokestatic (h0 := eX9_97), pvC1_s, pvC2_s, pvAf_v, pvAf_x, pvPop, pvCs, pvCat, pvPush, aX9_clearAutomaton_97, pvE_aload_n0, pvLA_s, pvE_invokevirtual, aX9_clearAutomaton_112, pvSh_0, pvSh_1, pvSh_2, pvSh_3, pvSh_4, pvSh_5, pvSh_6, pvSh_7, pvSh_8, pvSh_9, pvSh_10, pvSh_11, pvSh_12, pvSh_13, pvSh_14, pvSh_15, pvSh_16, pvSh_17, pvSh_18, pvSh_19, pvSh_20, pvSh_21, pvSh_22, pvSh_23, pvSh_24, pvSh_25, pvSh_26, pvSh_27, pvSh_28, pvSh_29, pvSh_30, pvSh_31, pvSh_32, pvSh_33, pvSh_34, pvSh_35, pvSh_36, pvSh_37, pvSh_38, pvSh_39, pvSh_40, pvSh_41, pvSh_42, pvSh_43, pvSh_44, pvSh_45, pvSh_46, pvSh_47, pvSh_48, pvSh_49, pvSh_50, pvSh_51, pvSh_52, pvSh_53, pvSh_54, pvSh_55, pvSh_56, pvSh_57, pvSh_58, pvSh_59, aX9_clearAutomaton_104, aX9_clearAutomaton_150, pvE_return, bX9_clearAutomaton_0, uX9_clearAutomaton_0, pvRecv_r, pvUp_nl, pvUp_same, pvUp_ap, pvSt_ap, pvX_c, pvX_ms, pvX_mn, pvE_nil, pvEn_i, pvEn_r, pvEn_l, pvEn_0, pvEn_s, pvRt, pvRv, pvTh, pvKc, pvGo, pvTgt, Int.toNat_natCast, false_and, and_false, true_and, and_true, if_true, if_false, reduceIte, reduceCtorEq, forall_const, false_or, or_false, true_or, or_true, ne_eq, not_true_eq_false, not_false_eq_true, implies_true, false_implies, Nat.reduceAdd, Nat.reduceSub, Nat.reduceMul, Nat.reduceEqDiff, Nat.reduceLT, Nat.reduceLeDiff, Int.reduceAdd, Int.reduceSub, Int.reduceMul, Int.reduceNeg, Int.reduceToNat, Int.reduceLE, Int.reduceLT, Int.reduceEq, Int.reduceNe, and_self]
    by_cases hs : 0 ≤ s ∧ s ≤ 1
    · have h3 := h2 hs
      rcases (show s = 0 ∨ s = 1 by omega) with rfl | rfl
      · (repeat' (first | with_reducible apply And.intro | intro _))
        all_goals first
          | omega
          | exact hh
          | contradiction
          | skip
        all_goals
          rename frF [5, 9, 36, 37] [] z _ => f1
          rename reF z _ => r1
          rename stF z _ => s1
          rename_i z1 _
          have g4 := f1.1 4 (by decide)
          obtain ⟨a1, a2⟩ := clC_of (g := pvUp (pvUp (pvUp z1.1 2 0 0) 2 1 1) 2 2 0 2) (by simp [pvUp_ap]) (by simp [pvUp_ap]) (by simp [pvUp_ap])
          exact h3 _ (frF_u (frF_u (frF_u (frF_t frF_0 f1 (by decide) (by decide)) (by decide)) (by decide)) (by decide)) (reF_m r1 (by simp only [pvUp_nl, pvSt_ne, pvSt_eq, ne_eq, Nat.reduceEqDiff, not_false_eq_true]) (by simp only [pvUp_nl, pvSt_ne, pvSt_eq, ne_eq, Nat.reduceEqDiff, not_false_eq_true])) (stF_m s1 (by simp only [pvUp_nl, pvSt_ne, pvSt_eq, ne_eq, Nat.reduceEqDiff, not_false_eq_true]) (by simp only [pvUp_nl, pvSt_ne, pvSt_eq, ne_eq, Nat.reduceEqDiff, not_false_eq_true])) a1 a2 (by simp only [pvUp_nl, pvSt_ne, pvSt_eq, ne_eq, Nat.reduceEqDiff, not_false_eq_true]; exact g4)
      · (repeat' (first | with_reducible apply And.intro | intro _))
        all_goals first
          | omega
          | exact hh
          | contradiction
          | skip
        all_goals
          rename frF [5, 9, 36, 37] [] z _ => f1
          rename reF z _ => r1
          rename stF z _ => s1
          rename_i z1 _
          have g2 := f1.1 2 (by decide)
          obtain ⟨a1, a2⟩ := clC_of (g := pvUp (pvUp (pvUp z1.1 4 0 0) 4 1 1) 4 2 0 4) (by simp [pvUp_ap]) (by simp [pvUp_ap]) (by simp [pvUp_ap])
          exact h3 _ (frF_u (frF_u (frF_u (frF_t frF_0 f1 (by decide) (by decide)) (by decide)) (by decide)) (by decide)) (reF_m r1 (by simp only [pvUp_nl, pvSt_ne, pvSt_eq, ne_eq, Nat.reduceEqDiff, not_false_eq_true]) (by simp only [pvUp_nl, pvSt_ne, pvSt_eq, ne_eq, Nat.reduceEqDiff, not_false_eq_true])) (stF_m s1 (by simp only [pvUp_nl, pvSt_ne, pvSt_eq, ne_eq, Nat.reduceEqDiff, not_false_eq_true]) (by simp only [pvUp_nl, pvSt_ne, pvSt_eq, ne_eq, Nat.reduceEqDiff, not_false_eq_true])) a1 a2 (by simp only [pvUp_nl, pvSt_ne, pvSt_eq, ne_eq, Nat.reduceEqDiff, not_false_eq_true]; exact g2)
    · have h3 := h1 hs
      (repeat' (first | with_reducible apply And.intro | intro _))
      all_goals first
        | omega
        | assumption
  · exact h.elim
def C_X9_undo : pvC
  | [.inr (.inr (.inl id))], z, Q => id = 0 ∧ hiF z ∧
      (z.1 36 3 = 0 → Q (.inr 2) z) ∧
      (z.1 36 3 ≠ 0 → ∀ z' : pvM, frF [2, 4, 5, 9, 36] [] z z' → stF z z' → (∀ j, j ≠ 2 → j ≠ 3 → z'.1 36 j = z.1 36 j) → z'.1 36 2 = (z.1 36 2 + 7) % 8 → z'.1 36 3 = z.1 36 3 - 1 →
        (∀ k : Nat, k < 173 → z'.1 2 k = z.1 37 (346 * ((z.1 36 2 + 7) % 8).toNat + k)) → (∀ k : Nat, k < 173 → z'.1 4 k = z.1 37 (346 * ((z.1 36 2 + 7) % 8).toNat + 173 + k)) → Q (.inl (some (vI (z.1 36 3 - 1)))) z')
  | _, _, _ => False
def bX9_undo : Nat → List (Instr × Nat)
  | 0 => [(.aload_n 0, 1), (.getfield 70, 3), (.getfield 276, 3), (.ifCond .le 7, 3), (.iconst 1, 1), (.goto 4, 3)]
  | 14 => [(.iconst 0, 1)]
  | 15 => [(.invokestatic 86, 3), (.aload_n 0, 1), (.invokevirtual 279, 3), (.aload_n 0, 1), (.getfield 70, 3), (.aload_n 0, 1), (.getfield 10, 3), (.aload_n 0, 1), (.getfield 16, 3), (.invokevirtual 282, 3), (.ireturn, 1)]
  | _ => []
def uX9_undo : Nat → Option (List Bool)
  | _ => none
def aX9_undo : pvCa
  | 86 => some (1, true, 0, 0, C_X9_requireState)
  | 279 => some (1, false, 8, 0, C_X9_markStale)
  | 282 => some (3, false, 2, 0, C_X2_takeBack)
  | _ => none
theorem bX9_undo_0 : bX9_undo 0 = [(.aload_n 0, 1), (.getfield 70, 3), (.getfield 276, 3), (.ifCond .le 7, 3), (.iconst 1, 1), (.goto 4, 3)] := rfl
theorem uX9_undo_0 : uX9_undo 0 = none := rfl
theorem bX9_undo_14 : bX9_undo 14 = [(.iconst 0, 1)] := rfl
theorem uX9_undo_14 : uX9_undo 14 = none := rfl
theorem bX9_undo_15 : bX9_undo 15 = [(.invokestatic 86, 3), (.aload_n 0, 1), (.invokevirtual 279, 3), (.aload_n 0, 1), (.getfield 70, 3), (.aload_n 0, 1), (.getfield 10, 3), (.aload_n 0, 1), (.getfield 16, 3), (.invokevirtual 282, 3), (.ireturn, 1)] := rfl
theorem uX9_undo_15 : uX9_undo 15 = none := rfl
theorem aX9_undo_86 : aX9_undo 86 = some (1, true, 0, 0, C_X9_requireState) := rfl
theorem aX9_undo_279 : aX9_undo 279 = some (1, false, 8, 0, C_X9_markStale) := rfl
theorem aX9_undo_282 : aX9_undo 282 = some (3, false, 2, 0, C_X2_takeBack) := rfl
def mX9_undo : Room := { frames := 7, cells := 1, slots := 6, locals := 101 }
set_option maxRecDepth 100000 in
set_option maxHeartbeats 4000000 in
theorem okX9_undo : pvOkM fX9 aX9_undo kX9 eX9 (some .int) bX9_undo uX9_undo 1 C_X9_undo := by
  intro Q SW hc as z h hS hz
  unfold C_X9_undo at h
  split at h
  · rename_i id
    obtain ⟨rfl, hh, h1, h2⟩ := h
    have hh1 := hh.1
    have hh2 := hh.2
    refine ⟨Nat.le_of_ble_eq_true rfl, hc 20 _ _ _ fun _ _ => ?_⟩
    clear hc hS hz
    simp only [pvSt1]
    simp only [C_X9_requireState, C_X9_markStale, C_X2_takeBack, pvE_aload_n0, pvLA_s, pvLd, pvE_getfield, pvGf_0, pvGf_1, pvGf_2, fX9_70, pvSh_0, pvSh_1, pvSh_2, pvSh_3, pvSh_4, pvSh_5, pvSh_6, pvSh_7, pvSh_8, pvSh_9, pvSh_10, pvSh_11, pvSh_12, pvSh_13, pvSh_14, pvSh_15, pvSh_16, pvSh_17, pvSh_18, pvSh_19, pvSh_20, pvSh_21, pvSh_22, pvSh_23, pvSh_24, pvSh_25, pvSh_26, pvSh_27, pvSh_28, pvSh_29, pvSh_30, pvSh_31, pvSh_32, pvSh_33, pvSh_34, pvSh_35, pvSh_36, pvSh_37, pvSh_38, pvSh_39, pvSh_40, pvSh_41, pvSh_42, pvSh_43, pvSh_44, pvSh_45, pvSh_46, pvSh_47, pvSh_48, pvSh_49, pvSh_50, pvSh_51, pvSh_52, pvSh_53, pvSh_54, pvSh_55, pvSh_56, pvSh_57, pvSh_58, pvSh_59, pvRf_0_0, pvRf_0_1, pvRf_0_2, pvRf_0_3, pvRf_0_4, pvRf_0_5, pvRf_0_6, pvRf_0_7, pvRf_0_8, pvRf_0_9, pvRf_0_10, pvRf_1_0, pvRf_3_0, pvRf_5_0, pvRf_5_1, pvRf_5_2, pvRf_9_0, pvRf_9_1, pvRf_9_2, pvRf_13_0, pvRf_13_1, pvRf_13_2, pvRf_17_0, pvRf_17_2, pvRf_20_0, pvRf_20_1, pvRf_20_2, pvRf_24_0, pvRf_24_1, pvRf_24_2, pvRf_28_0, pvRf_28_1, pvRf_28_2, pvRf_28_3, pvRf_33_0, pvRf_33_1, pvRf_36_0, pvRf_36_1, pvRf_39_0, pvRf_39_1, pvRf_39_2, pvRf_39_5, pvRf_39_6, pvRf_39_9, pvRf_39_13, pvRf_39_15, pvRf_39_16, pvRf_39_17, pvRf_39_19, pvRf_39_20, pvRf_39_22, pvRf_39_23, pvRf_39_24, pvRf_39_25, pvRf_39_29, pvRf_39_30, fX9_276, pvE_if_le, pvE_iconst, pvE_goto, pvE_invokestatic (h0 := eX9_86), pvC1_s, pvC2_s, pvAf_v, pvAf_x, pvPop, pvCs, pvCat, pvPush, aX9_undo_86, pvE_invokevirtual, aX9_undo_279, fX9_10, fX9_16, aX9_undo_282, pvE_ireturn, bX9_undo_0, uX9_undo_0, bX9_undo_14, uX9_undo_14, bX9_undo_15, uX9_undo_15, pvRecv_r, pvUp_nl, pvUp_same, pvUp_ap, pvSt_ap, pvX_c, pvX_ms, pvX_mn, pvE_nil, pvEn_i, pvEn_r, pvEn_l, pvEn_0, pvEn_s, pvRt, pvRv, pvTh, pvKc, pvGo, pvTgt, Int.toNat_natCast, false_and, and_false, true_and, and_true, if_true, if_false, reduceIte, reduceCtorEq, forall_const, false_or, or_false, true_or, or_true, ne_eq, not_true_eq_false, not_false_eq_true, implies_true, false_implies, Nat.reduceAdd, Nat.reduceSub, Nat.reduceMul, Nat.reduceEqDiff, Nat.reduceLT, Nat.reduceLeDiff, Int.reduceAdd, Int.reduceSub, Int.reduceMul, Int.reduceNeg, Int.reduceToNat, Int.reduceLE, Int.reduceLT, Int.reduceEq, Int.reduceNe, and_self]
    by_cases hs : z.1 36 3 = 0
    · have h3 := h1 hs
      (repeat' (first | with_reducible apply And.intro | intro _))
      all_goals first
        | omega
        | assumption
        | contradiction
    · have h3 := h2 hs
      (repeat' (first | with_reducible apply And.intro | intro _))
      all_goals first
        | omega
        | contradiction
        | skip
      all_goals
        rename_i z1 f1 k1 e2 e3 o1 o2
        refine h3 z1 (frF_t (frF_u (frF_u frF_0 (by decide)) (by decide)) f1 (by decide) (by decide)) ⟨fun j hj => ?_, fun j hj => ?_, ?_, ?_⟩ k1 e2 e3 o1 o2
        · rw [f1.1 5 (by decide)]; simp [pvUp_ap, hj]
        · rw [f1.1 9 (by decide)]; simp [pvUp_ap, hj]
        · rw [f1.1 5 (by decide)]; simp [pvUp_ap]
        · rw [f1.1 9 (by decide)]; simp [pvUp_ap]
  · exact h.elim
def C_X9_save : pvC
  | [.inr (.inr (.inl id))], z, Q => id = 0 ∧
      ∀ z' : pvM, frF [36, 38] [] z z' → (∀ j, j ≠ 4 → z'.1 36 j = z.1 36 j) → z'.1 36 4 = 1 → (∀ k : Nat, k < 173 → z'.1 38 k = z.1 2 k) → (∀ k : Nat, k < 173 → z'.1 38 (173 + k) = z.1 4 k) → Q (.inl none) z'
  | _, _, _ => False
def bX9_save : Nat → List (Instr × Nat)
  | 0 => [(.aload_n 0, 1), (.getfield 70, 3), (.aload_n 0, 1), (.getfield 10, 3), (.aload_n 0, 1), (.getfield 16, 3), (.invokevirtual 286, 3), (.return_, 1)]
  | _ => []
def uX9_save : Nat → Option (List Bool)
  | _ => none
def aX9_save : pvCa
  | 286 => some (3, false, 2, 0, C_X2_keep)
  | _ => none
theorem bX9_save_0 : bX9_save 0 = [(.aload_n 0, 1), (.getfield 70, 3), (.aload_n 0, 1), (.getfield 10, 3), (.aload_n 0, 1), (.getfield 16, 3), (.invokevirtual 286, 3), (.return_, 1)] := rfl
theorem uX9_save_0 : uX9_save 0 = none := rfl
theorem aX9_save_286 : aX9_save 286 = some (3, false, 2, 0, C_X2_keep) := rfl
def mX9_save : Room := { frames := 3, cells := 1, slots := 6, locals := 84 }
set_option maxRecDepth 100000 in
set_option maxHeartbeats 4000000 in
theorem okX9_save : pvOkM fX9 aX9_save kX9 eX9 none bX9_save uX9_save 1 C_X9_save := by
  intro Q SW hc as z h hS hz
  unfold C_X9_save at h
  split at h
  · rename_i id
    obtain ⟨rfl, h2⟩ := h
    refine ⟨Nat.le_of_ble_eq_true rfl, hc 20 _ _ _ fun _ _ => ?_⟩
    clear hc hS hz
    simp only [pvSt1]
    simp only [C_X2_keep, pvE_aload_n0, pvLA_s, pvLd, pvE_getfield, pvGf_0, pvGf_1, pvGf_2, fX9_70, pvSh_0, pvSh_1, pvSh_2, pvSh_3, pvSh_4, pvSh_5, pvSh_6, pvSh_7, pvSh_8, pvSh_9, pvSh_10, pvSh_11, pvSh_12, pvSh_13, pvSh_14, pvSh_15, pvSh_16, pvSh_17, pvSh_18, pvSh_19, pvSh_20, pvSh_21, pvSh_22, pvSh_23, pvSh_24, pvSh_25, pvSh_26, pvSh_27, pvSh_28, pvSh_29, pvSh_30, pvSh_31, pvSh_32, pvSh_33, pvSh_34, pvSh_35, pvSh_36, pvSh_37, pvSh_38, pvSh_39, pvSh_40, pvSh_41, pvSh_42, pvSh_43, pvSh_44, pvSh_45, pvSh_46, pvSh_47, pvSh_48, pvSh_49, pvSh_50, pvSh_51, pvSh_52, pvSh_53, pvSh_54, pvSh_55, pvSh_56, pvSh_57, pvSh_58, pvSh_59, pvRf_0_0, pvRf_0_1, pvRf_0_2, pvRf_0_3, pvRf_0_4, pvRf_0_5, pvRf_0_6, pvRf_0_7, pvRf_0_8, pvRf_0_9, pvRf_0_10, pvRf_1_0, pvRf_3_0, pvRf_5_0, pvRf_5_1, pvRf_5_2, pvRf_9_0, pvRf_9_1, pvRf_9_2, pvRf_13_0, pvRf_13_1, pvRf_13_2, pvRf_17_0, pvRf_17_2, pvRf_20_0, pvRf_20_1, pvRf_20_2, pvRf_24_0, pvRf_24_1, pvRf_24_2, pvRf_28_0, pvRf_28_1, pvRf_28_2, pvRf_28_3, pvRf_33_0, pvRf_33_1, pvRf_36_0, pvRf_36_1, pvRf_39_0, pvRf_39_1, pvRf_39_2, pvRf_39_5, pvRf_39_6, pvRf_39_9, pvRf_39_13, pvRf_39_15, pvRf_39_16, pvRf_39_17, pvRf_39_19, pvRf_39_20, pvRf_39_22, pvRf_39_23, pvRf_39_24, pvRf_39_25, pvRf_39_29, pvRf_39_30, fX9_10, fX9_16, pvE_invokevirtual, pvC1_s, pvC2_s, pvAf_v, pvAf_x, pvPop, pvCs, pvCat, pvPush, aX9_save_286, pvE_return, bX9_save_0, uX9_save_0, pvRecv_r, pvUp_nl, pvUp_same, pvUp_ap, pvSt_ap, pvX_c, pvX_ms, pvX_mn, pvE_nil, pvEn_i, pvEn_r, pvEn_l, pvEn_0, pvEn_s, pvRt, pvRv, pvTh, pvKc, pvGo, pvTgt, Int.toNat_natCast, false_and, and_false, true_and, and_true, if_true, if_false, reduceIte, reduceCtorEq, forall_const, false_or, or_false, true_or, or_true, ne_eq, not_true_eq_false, not_false_eq_true, implies_true, false_implies, Nat.reduceAdd, Nat.reduceSub, Nat.reduceMul, Nat.reduceEqDiff, Nat.reduceLT, Nat.reduceLeDiff, Int.reduceAdd, Int.reduceSub, Int.reduceMul, Int.reduceNeg, Int.reduceToNat, Int.reduceLE, Int.reduceLT, Int.reduceEq, Int.reduceNe, and_self]
    (repeat' (first | with_reducible apply And.intro | intro _))
    all_goals first
      | omega
      | (rename_i z1 f1 k1 e2 o1 o2
         exact h2 z1 f1 k1 e2 o1 o2)
  · exact h.elim
def C_X9_restore : pvC
  | [.inr (.inr (.inl id))], z, Q => id = 0 ∧ (hiF z ∧ (z.1 36 4 = 0 ∨ z.1 36 4 = 1)) ∧
      (z.1 36 4 = 0 → Q (.inr 2) z) ∧
      (z.1 36 4 = 1 → ∀ z' : pvM, frF [2, 4, 5, 9, 36, 37] [] z z' → reF z z' → stF z z' → (∀ k : Nat, k < 173 → z'.1 2 k = z.1 38 k) → (∀ k : Nat, k < 173 → z'.1 4 k = z.1 38 (173 + k)) → Q (.inl none) z')
  | _, _, _ => False
def bX9_restore : Nat → List (Instr × Nat)
  | 0 => [(.aload_n 0, 1), (.getfield 70, 3), (.getfield 290, 3), (.invokestatic 86, 3), (.aload_n 0, 1), (.invokevirtual 112, 3), (.aload_n 0, 1), (.getfield 70, 3), (.aload_n 0, 1), (.getfield 10, 3), (.aload_n 0, 1), (.getfield 16, 3), (.invokevirtual 294, 3), (.return_, 1)]
  | _ => []
def uX9_restore : Nat → Option (List Bool)
  | _ => none
def aX9_restore : pvCa
  | 86 => some (1, true, 0, 0, C_X9_requireState)
  | 112 => some (1, false, 8, 0, C_X9_beginChange)
  | 294 => some (3, false, 2, 0, C_X2_bringBack)
  | _ => none
theorem bX9_restore_0 : bX9_restore 0 = [(.aload_n 0, 1), (.getfield 70, 3), (.getfield 290, 3), (.invokestatic 86, 3), (.aload_n 0, 1), (.invokevirtual 112, 3), (.aload_n 0, 1), (.getfield 70, 3), (.aload_n 0, 1), (.getfield 10, 3), (.aload_n 0, 1), (.getfield 16, 3), (.invokevirtual 294, 3), (.return_, 1)] := rfl
theorem uX9_restore_0 : uX9_restore 0 = none := rfl
theorem aX9_restore_86 : aX9_restore 86 = some (1, true, 0, 0, C_X9_requireState) := rfl
theorem aX9_restore_112 : aX9_restore 112 = some (1, false, 8, 0, C_X9_beginChange) := rfl
theorem aX9_restore_294 : aX9_restore 294 = some (3, false, 2, 0, C_X2_bringBack) := rfl
def mX9_restore : Room := { frames := 7, cells := 1, slots := 6, locals := 104 }
set_option maxRecDepth 100000 in
set_option maxHeartbeats 4000000 in
theorem okX9_restore : pvOkM fX9 aX9_restore kX9 eX9 none bX9_restore uX9_restore 1 C_X9_restore := by
  intro Q SW hc as z h hS hz
  unfold C_X9_restore at h
  split at h
  · rename_i id
    obtain ⟨rfl, ⟨hh, hk⟩, h1, h2⟩ := h
    refine ⟨Nat.le_of_ble_eq_true rfl, hc 20 _ _ _ fun _ _ => ?_⟩
    clear hc hS hz
    simp only [pvSt1]
    simp only [C_X9_requireState, C_X9_beginChange, C_X2_bringBack, pvE_aload_n0, pvLA_s, pvLd, pvE_getfield, pvGf_0, pvGf_1, pvGf_2, fX9_70, pvSh_0, pvSh_1, pvSh_2, pvSh_3, pvSh_4, pvSh_5, pvSh_6, pvSh_7, pvSh_8, pvSh_9, pvSh_10, pvSh_11, pvSh_12, pvSh_13, pvSh_14, pvSh_15, pvSh_16, pvSh_17, pvSh_18, pvSh_19, pvSh_20, pvSh_21, pvSh_22, pvSh_23, pvSh_24, pvSh_25, pvSh_26, pvSh_27, pvSh_28, pvSh_29, pvSh_30, pvSh_31, pvSh_32, pvSh_33, pvSh_34, pvSh_35, pvSh_36, pvSh_37, pvSh_38, pvSh_39, pvSh_40, pvSh_41, pvSh_42, pvSh_43, pvSh_44, pvSh_45, pvSh_46, pvSh_47, pvSh_48, pvSh_49, pvSh_50, pvSh_51, pvSh_52, pvSh_53, pvSh_54, pvSh_55, pvSh_56, pvSh_57, pvSh_58, pvSh_59, pvRf_0_0, pvRf_0_1, pvRf_0_2, pvRf_0_3, pvRf_0_4, pvRf_0_5, pvRf_0_6, pvRf_0_7, pvRf_0_8, pvRf_0_9, pvRf_0_10, pvRf_1_0, pvRf_3_0, pvRf_5_0, pvRf_5_1, pvRf_5_2, pvRf_9_0, pvRf_9_1, pvRf_9_2, pvRf_13_0, pvRf_13_1, pvRf_13_2, pvRf_17_0, pvRf_17_2, pvRf_20_0, pvRf_20_1, pvRf_20_2, pvRf_24_0, pvRf_24_1, pvRf_24_2, pvRf_28_0, pvRf_28_1, pvRf_28_2, pvRf_28_3, pvRf_33_0, pvRf_33_1, pvRf_36_0, pvRf_36_1, pvRf_39_0, pvRf_39_1, pvRf_39_2, pvRf_39_5, pvRf_39_6, pvRf_39_9, pvRf_39_13, pvRf_39_15, pvRf_39_16, pvRf_39_17, pvRf_39_19, pvRf_39_20, pvRf_39_22, pvRf_39_23, pvRf_39_24, pvRf_39_25, pvRf_39_29, pvRf_39_30, fX9_290, pvE_invokestatic (h0 := eX9_86), pvC1_s, pvC2_s, pvAf_v, pvAf_x, pvPop, pvCs, pvCat, pvPush, aX9_restore_86, pvE_invokevirtual, aX9_restore_112, fX9_10, fX9_16, aX9_restore_294, pvE_return, bX9_restore_0, uX9_restore_0, pvRecv_r, pvUp_nl, pvUp_same, pvUp_ap, pvSt_ap, pvX_c, pvX_ms, pvX_mn, pvE_nil, pvEn_i, pvEn_r, pvEn_l, pvEn_0, pvEn_s, pvRt, pvRv, pvTh, pvKc, pvGo, pvTgt, Int.toNat_natCast, false_and, and_false, true_and, and_true, if_true, if_false, reduceIte, reduceCtorEq, forall_const, false_or, or_false, true_or, or_true, ne_eq, not_true_eq_false, not_false_eq_true, implies_true, false_implies, Nat.reduceAdd, Nat.reduceSub, Nat.reduceMul, Nat.reduceEqDiff, Nat.reduceLT, Nat.reduceLeDiff, Int.reduceAdd, Int.reduceSub, Int.reduceMul, Int.reduceNeg, Int.reduceToNat, Int.reduceLE, Int.reduceLT, Int.reduceEq, Int.reduceNe, and_self]
    by_cases hs : z.1 36 4 = 0
    · have h3 := h1 hs
      (repeat' (first | with_reducible apply And.intro | intro _))
      all_goals first
        | omega
        | assumption
        | contradiction
    · have h3 := h2 (by omega)
      (repeat' (first | with_reducible apply And.intro | intro _))
      all_goals first
        | omega
        | exact hh
        | contradiction
        | skip
      all_goals
        rename frF [5, 9, 36, 37] [] z _ => f1
        rename reF z _ => r1
        rename stF z _ => s1
        rename frF [2, 4] [] _ _ => f2
        rename_i o1 o2
        rw [f1.1 38 (by decide)] at o1 o2
        exact h3 _ (frF_t (frF_t frF_0 f1 (by decide) (by decide)) f2 (by decide) (by decide)) (reF_m r1 (f2.1 36 (by decide)) (f2.1 37 (by decide))) (stF_m s1 (f2.1 5 (by decide)) (f2.1 9 (by decide))) o1 o2
  · exact h.elim
