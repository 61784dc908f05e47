def C_X9_wordLength : pvC
  | [.inr (.inr (.inl id))], z, Q => id = 0 ∧ Q (.inl (some (vI (z.1 20 4)))) z
  | _, _, _ => False
def bX9_wordLength : Nat → List (Instr × Nat)
  | 0 => [(.aload_n 0, 1), (.getfield 42, 3), (.getfield 172, 3), (.ireturn, 1)]
  | _ => []
def uX9_wordLength : Nat → Option (List Bool)
  | _ => none
def aX9_wordLength : pvCa
  | _ => none
theorem bX9_wordLength_0 : bX9_wordLength 0 = [(.aload_n 0, 1), (.getfield 42, 3), (.getfield 172, 3), (.ireturn, 1)] := rfl
theorem uX9_wordLength_0 : uX9_wordLength 0 = none := rfl
set_option maxRecDepth 100000 in
set_option maxHeartbeats 4000000 in
theorem okX9_wordLength : pvOkM fX9 aX9_wordLength kX9 eX9 (some .int) bX9_wordLength uX9_wordLength 1 C_X9_wordLength := by
  intro Q SW hc as z h hS hz
  unfold C_X9_wordLength at h
  split at h
  · rename_i id
    obtain ⟨hid, h⟩ := h
    refine ⟨Nat.le_of_ble_eq_true rfl, hc 20 _ _ _ fun _ _ => ?_⟩
    clear hc hS
    subst hid
    (simp only [pvSt1]
     simp only [pvE_aload_n0, pvLA_s, pvLd, pvE_getfield, pvGf_0, pvGf_1, pvGf_2, fX9_42, pvSh_0, pvSh_1, pvSh_2, pvSh_3, pvSh_4, pvSh_5, pvSh_6, pvSh_7, pvSh_8, pvSh_9, pvSh_10, pvSh_11, pvSh_12, pvSh_13, pvSh_14, pvSh_15, pvSh_16, pvSh_17, pvSh_18, pvSh_19, pvSh_20, pvSh_21, pvSh_22, pvSh_23, pvSh_24, pvSh_25, pvSh_26, pvSh_27, pvSh_28, pvSh_29, pvSh_30, pvSh_31, pvSh_32, pvSh_33, pvSh_34, pvSh_35, pvSh_36, pvSh_37, pvSh_38, pvRf_0_0, pvRf_0_1, pvRf_0_2, pvRf_0_3, pvRf_0_4, pvRf_0_5, pvRf_0_6, pvRf_0_7, pvRf_0_8, pvRf_0_9, pvRf_0_10, pvRf_1_0, pvRf_3_0, pvRf_5_0, pvRf_5_1, pvRf_5_2, pvRf_9_0, pvRf_9_1, pvRf_9_2, pvRf_13_0, pvRf_13_1, pvRf_13_2, pvRf_17_0, pvRf_17_2, pvRf_20_0, pvRf_20_1, pvRf_20_2, pvRf_24_0, pvRf_24_1, pvRf_24_2, pvRf_28_0, pvRf_28_1, pvRf_28_2, pvRf_28_3, pvRf_33_0, pvRf_33_1, pvRf_36_0, pvRf_36_1, fX9_172, pvE_ireturn, bX9_wordLength_0, uX9_wordLength_0, pvRtG, pvRecv_r, pvUp_nl, pvUp_same, pvUp_ap, pvSt_ap, pvX_c, pvX_ms, pvX_mn, pvE_nil, pvEn_i, pvEn_r, pvEn_l, pvEn_0, pvEn_s, pvRt, pvRv, pvTh, pvKc, pvGo, pvTgt, Int.toNat_natCast, false_and, and_false, true_and, and_true, if_true, if_false, reduceIte, reduceCtorEq, forall_const, false_or, or_false, true_or, or_true, ne_eq, not_true_eq_false, not_false_eq_true, implies_true, false_implies, Nat.reduceAdd, Nat.reduceSub, Nat.reduceMul, Nat.reduceEqDiff, Nat.reduceLT, Nat.reduceLeDiff, Int.reduceAdd, Int.reduceSub, Int.reduceMul, Int.reduceNeg, Int.reduceToNat, Int.reduceLE, Int.reduceLT, Int.reduceEq, Int.reduceNe, and_self]
     grind)
  · exact h.elim
def C_X9_appendCharacter : pvC
  | [.inr (.inr (.inl id)), .inl c], z, Q => id = 0 ∧ (0 ≤ z.1 17 1 ∧ z.1 17 1 ≤ 30) ∧
      (¬ (33 ≤ c ∧ c ≤ 126) → Q (.inr 1) z) ∧ (33 ≤ c ∧ c ≤ 126 → z.1 17 1 = 30 → Q (.inr 2) z) ∧
      (33 ≤ c ∧ c ≤ 126 → z.1 17 1 ≠ 30 → Q (.inl (some (vI (z.1 17 1 + 1)))) (pvUp (pvUp z.1 18 (z.1 17 1).toNat c) 17 1 (z.1 17 1 + 1), z.2))
  | _, _, _ => False
def bX9_appendCharacter : Nat → List (Instr × Nat)
  | 0 => [(.iload_n 1, 1), (.bipush 33, 2), (.bipush 126, 2), (.invokestatic 74, 3), (.invokestatic 78, 3), (.aload_n 0, 1), (.getfield 35, 3), (.invokevirtual 82, 3), (.invokestatic 86, 3), (.aload_n 0, 1), (.getfield 35, 3), (.iload_n 1, 1), (.invokevirtual 89, 3), (.ireturn, 1)]
  | _ => []
def uX9_appendCharacter : Nat → Option (List Bool)
  | _ => none
def aX9_appendCharacter : pvCa
  | 74 => some (3, true, 0, 0, C_X9_isBetween)
  | 78 => some (1, true, 0, 0, C_X9_requireArgument)
  | 82 => some (1, false, 1, 0, C_X1_hasRoom)
  | 86 => some (1, true, 0, 0, C_X9_requireState)
  | 89 => some (2, false, 1, 0, C_X1_append)
  | _ => none
theorem bX9_appendCharacter_0 : bX9_appendCharacter 0 = [(.iload_n 1, 1), (.bipush 33, 2), (.bipush 126, 2), (.invokestatic 74, 3), (.invokestatic 78, 3), (.aload_n 0, 1), (.getfield 35, 3), (.invokevirtual 82, 3), (.invokestatic 86, 3), (.aload_n 0, 1), (.getfield 35, 3), (.iload_n 1, 1), (.invokevirtual 89, 3), (.ireturn, 1)] := rfl
theorem uX9_appendCharacter_0 : uX9_appendCharacter 0 = none := rfl
theorem aX9_appendCharacter_74 : aX9_appendCharacter 74 = some (3, true, 0, 0, C_X9_isBetween) := rfl
theorem aX9_appendCharacter_78 : aX9_appendCharacter 78 = some (1, true, 0, 0, C_X9_requireArgument) := rfl
theorem aX9_appendCharacter_82 : aX9_appendCharacter 82 = some (1, false, 1, 0, C_X1_hasRoom) := rfl
theorem aX9_appendCharacter_86 : aX9_appendCharacter 86 = some (1, true, 0, 0, C_X9_requireState) := rfl
theorem aX9_appendCharacter_89 : aX9_appendCharacter 89 = some (2, false, 1, 0, C_X1_append) := rfl
set_option maxRecDepth 100000 in
set_option maxHeartbeats 4000000 in
theorem okX9_appendCharacter : pvOkM fX9 aX9_appendCharacter kX9 eX9 (some .int) bX9_appendCharacter uX9_appendCharacter 2 C_X9_appendCharacter := by
  intro Q SW hc as z h hS hz
  unfold C_X9_appendCharacter at h
  split at h
  · rename_i id c
    obtain ⟨rfl, hl, h1, h2, h3⟩ := h
    refine ⟨Nat.le_of_ble_eq_true rfl, hc 20 _ _ _ fun _ _ => ?_⟩
    clear hc hS hz
    simp only [pvSt1]
    simp only [C_X9_requireArgument, C_X9_isBetween, C_X9_requireState, C_X1_hasRoom, C_X1_append, pvE_iload_n1, pvLI_s, pvLd, pvE_bipush, pvE_invokestatic (h0 := eX9_74), pvC1_s, pvC2_s, pvAf_v, pvAf_x, pvPop, pvCs, pvCat, pvPush, aX9_appendCharacter_74, pvE_invokestatic (h0 := eX9_78), aX9_appendCharacter_78, pvE_aload_n0, pvLA_s, pvE_getfield, pvGf_0, pvGf_1, pvGf_2, fX9_35, pvSh_0, pvSh_1, pvSh_2, pvSh_3, pvSh_4, pvSh_5, pvSh_6, pvSh_7, pvSh_8, pvSh_9, pvSh_10, pvSh_11, pvSh_12, pvSh_13, pvSh_14, pvSh_15, pvSh_16, pvSh_17, pvSh_18, pvSh_19, pvSh_20, pvSh_21, pvSh_22, pvSh_23, pvSh_24, pvSh_25, pvSh_26, pvSh_27, pvSh_28, pvSh_29, pvSh_30, pvSh_31, pvSh_32, pvSh_33, pvSh_34, pvSh_35, pvSh_36, pvSh_37, pvSh_38, pvRf_0_0, pvRf_0_1, pvRf_0_2, pvRf_0_3, pvRf_0_4, pvRf_0_5, pvRf_0_6, pvRf_0_7, pvRf_0_8, pvRf_0_9, pvRf_0_10, pvRf_1_0, pvRf_3_0, pvRf_5_0, pvRf_5_1, pvRf_5_2, pvRf_9_0, pvRf_9_1, pvRf_9_2, pvRf_13_0, pvRf_13_1, pvRf_13_2, pvRf_17_0, pvRf_17_2, pvRf_20_0, pvRf_20_1, pvRf_20_2, pvRf_24_0, pvRf_24_1, pvRf_24_2, pvRf_28_0, pvRf_28_1, pvRf_28_2, pvRf_28_3, pvRf_33_0, pvRf_33_1, pvRf_36_0, pvRf_36_1, pvE_invokevirtual, aX9_appendCharacter_82, pvE_invokestatic (h0 := eX9_86), aX9_appendCharacter_86, aX9_appendCharacter_89, pvE_ireturn, bX9_appendCharacter_0, uX9_appendCharacter_0, pvRtG, pvRecv_r, pvUp_nl, pvUp_same, pvUp_ap, pvSt_ap, pvX_c, pvX_ms, pvX_mn, pvE_nil, pvEn_i, pvEn_r, pvEn_l, pvEn_0, pvEn_s, pvRt, pvRv, pvTh, pvKc, pvGo, pvTgt, Int.toNat_natCast, false_and, and_false, true_and, and_true, if_true, if_false, reduceIte, reduceCtorEq, forall_const, false_or, or_false, true_or, or_true, ne_eq, not_true_eq_false, not_false_eq_true, implies_true, false_implies, Nat.reduceAdd, Nat.reduceSub, Nat.reduceMul, Nat.reduceEqDiff, Nat.reduceLT, Nat.reduceLeDiff, Int.reduceAdd, Int.reduceSub, Int.reduceMul, Int.reduceNeg, Int.reduceToNat, Int.reduceLE, Int.reduceLT, Int.reduceEq, Int.reduceNe, and_self]
    by_cases hc : 33 ≤ c ∧ c ≤ 126
    · by_cases h30 : z.1 17 1 = 30
      · have h4 := h2 hc h30
        (repeat' first | with_reducible apply And.intro | with_reducible intro _) <;> first | omega | assumption | contradiction
      · have h4 := h3 hc h30
        (repeat' first | with_reducible apply And.intro | with_reducible intro _) <;> first | omega | assumption | contradiction
    · have h4 := h1 hc
      (repeat' first | with_reducible apply And.intro | with_reducible intro _) <;> first | omega | assumption | contradiction
  · exact h.elim
def C_X9_appendEvent : pvC
  | [.inr (.inr (.inl id)), .inl d, .inl l], z, Q => id = 0 ∧ ((0 ≤ z.1 20 4 ∧ z.1 20 4 ≤ 10) ∧ 0 ≤ z.1 20 3 ∧ z.1 20 3 < 216) ∧
      (¬ ((0 ≤ d ∧ d ≤ 4) ∧ 0 ≤ l ∧ l ≤ 2) → Q (.inr 1) z) ∧
      ((0 ≤ d ∧ d ≤ 4) ∧ 0 ≤ l ∧ l ≤ 2 → z.1 20 4 = 10 → Q (.inr 2) z) ∧
      ((0 ≤ d ∧ d ≤ 4) ∧ 0 ≤ l ∧ l ≤ 2 → z.1 20 4 ≠ 10 → Q (.inl (some (vI (z.1 20 4 + 1)))) (pvUp (pvUp (pvUp (pvUp (pvUp z.1 21 (z.1 20 4).toNat d) 22 (z.1 20 4).toNat l) 23 (z.1 20 4).toNat (psF (z.1 20 3) d)) 20 3 (rsF (psF (z.1 20 3) d) l)) 20 4 (z.1 20 4 + 1), z.2))
  | _, _, _ => False
def bX9_appendEvent : Nat → List (Instr × Nat)
  | 0 => [(.iload_n 1, 1), (.iconst 0, 1), (.iconst 4, 1), (.invokestatic 74, 3), (.invokestatic 78, 3), (.iload_n 2, 1), (.iconst 0, 1), (.iconst 2, 1), (.invokestatic 74, 3), (.invokestatic 78, 3), (.aload_n 0, 1), (.getfield 42, 3), (.getfield 172, 3), (.bipush 10, 2), (.if_icmp .ge 7, 3), (.iconst 1, 1), (.goto 4, 3)]
  | 34 => [(.iconst 0, 1)]
  | 35 => [(.invokestatic 86, 3), (.aload_n 0, 1), (.getfield 42, 3), (.iload_n 1, 1), (.iload_n 2, 1), (.invokevirtual 175, 3), (.ireturn, 1)]
  | _ => []
def uX9_appendEvent : Nat → Option (List Bool)
  | _ => none
def aX9_appendEvent : pvCa
  | 74 => some (3, true, 0, 0, C_X9_isBetween)
  | 78 => some (1, true, 0, 0, C_X9_requireArgument)
  | 86 => some (1, true, 0, 0, C_X9_requireState)
  | 175 => some (3, false, 6, 0, C_X6_append)
  | _ => none
theorem bX9_appendEvent_0 : bX9_appendEvent 0 = [(.iload_n 1, 1), (.iconst 0, 1), (.iconst 4, 1), (.invokestatic 74, 3), (.invokestatic 78, 3), (.iload_n 2, 1), (.iconst 0, 1), (.iconst 2, 1), (.invokestatic 74, 3), (.invokestatic 78, 3), (.aload_n 0, 1), (.getfield 42, 3), (.getfield 172, 3), (.bipush 10, 2), (.if_icmp .ge 7, 3), (.iconst 1, 1), (.goto 4, 3)] := rfl
theorem uX9_appendEvent_0 : uX9_appendEvent 0 = none := rfl
theorem bX9_appendEvent_34 : bX9_appendEvent 34 = [(.iconst 0, 1)] := rfl
theorem uX9_appendEvent_34 : uX9_appendEvent 34 = none := rfl
theorem bX9_appendEvent_35 : bX9_appendEvent 35 = [(.invokestatic 86, 3), (.aload_n 0, 1), (.getfield 42, 3), (.iload_n 1, 1), (.iload_n 2, 1), (.invokevirtual 175, 3), (.ireturn, 1)] := rfl
theorem uX9_appendEvent_35 : uX9_appendEvent 35 = none := rfl
theorem aX9_appendEvent_74 : aX9_appendEvent 74 = some (3, true, 0, 0, C_X9_isBetween) := rfl
theorem aX9_appendEvent_78 : aX9_appendEvent 78 = some (1, true, 0, 0, C_X9_requireArgument) := rfl
theorem aX9_appendEvent_86 : aX9_appendEvent 86 = some (1, true, 0, 0, C_X9_requireState) := rfl
theorem aX9_appendEvent_175 : aX9_appendEvent 175 = some (3, false, 6, 0, C_X6_append) := rfl
set_option maxRecDepth 100000 in
set_option maxHeartbeats 4000000 in
theorem okX9_appendEvent : pvOkM fX9 aX9_appendEvent kX9 eX9 (some .int) bX9_appendEvent uX9_appendEvent 3 C_X9_appendEvent := by
  intro Q SW hc as z h hS hz
  unfold C_X9_appendEvent at h
  split at h
  · rename_i id d l
    obtain ⟨rfl, hl, h1, h2, h3⟩ := h
    refine ⟨Nat.le_of_ble_eq_true rfl, hc 20 _ _ _ fun _ _ => ?_⟩
    clear hc hS hz
    simp only [pvSt1]
    simp only [C_X9_requireArgument, C_X9_isBetween, C_X9_requireState, C_X6_append, pvE_iload_n1, pvLI_s, pvLd, pvE_iconst, pvE_invokestatic (h0 := eX9_74), pvC1_s, pvC2_s, pvAf_v, pvAf_x, pvPop, pvCs, pvCat, pvPush, aX9_appendEvent_74, pvE_invokestatic (h0 := eX9_78), aX9_appendEvent_78, pvE_iload_n2, pvE_aload_n0, pvLA_s, pvE_getfield, pvGf_0, pvGf_1, pvGf_2, fX9_42, pvSh_0, pvSh_1, pvSh_2, pvSh_3, pvSh_4, pvSh_5, pvSh_6, pvSh_7, pvSh_8, pvSh_9, pvSh_10, pvSh_11, pvSh_12, pvSh_13, pvSh_14, pvSh_15, pvSh_16, pvSh_17, pvSh_18, pvSh_19, pvSh_20, pvSh_21, pvSh_22, pvSh_23, pvSh_24, pvSh_25, pvSh_26, pvSh_27, pvSh_28, pvSh_29, pvSh_30, pvSh_31, pvSh_32, pvSh_33, pvSh_34, pvSh_35, pvSh_36, pvSh_37, pvSh_38, pvRf_0_0, pvRf_0_1, pvRf_0_2, pvRf_0_3, pvRf_0_4, pvRf_0_5, pvRf_0_6, pvRf_0_7, pvRf_0_8, pvRf_0_9, pvRf_0_10, pvRf_1_0, pvRf_3_0, pvRf_5_0, pvRf_5_1, pvRf_5_2, pvRf_9_0, pvRf_9_1, pvRf_9_2, pvRf_13_0, pvRf_13_1, pvRf_13_2, pvRf_17_0, pvRf_17_2, pvRf_20_0, pvRf_20_1, pvRf_20_2, pvRf_24_0, pvRf_24_1, pvRf_24_2, pvRf_28_0, pvRf_28_1, pvRf_28_2, pvRf_28_3, pvRf_33_0, pvRf_33_1, pvRf_36_0, pvRf_36_1, fX9_172, pvE_bipush, pvE_icmp_ge, pvE_goto, pvE_invokestatic (h0 := eX9_86), aX9_appendEvent_86, pvE_invokevirtual, aX9_appendEvent_175, pvE_ireturn, bX9_appendEvent_0, uX9_appendEvent_0, bX9_appendEvent_34, uX9_appendEvent_34, bX9_appendEvent_35, uX9_appendEvent_35, pvRtG, pvRecv_r, pvUp_nl, pvUp_same, pvUp_ap, pvSt_ap, pvX_c, pvX_ms, pvX_mn, pvE_nil, pvEn_i, pvEn_r, pvEn_l, pvEn_0, pvEn_s, pvRt, pvRv, pvTh, pvKc, pvGo, pvTgt, Int.toNat_natCast, false_and, and_false, true_and, and_true, if_true, if_false, reduceIte, reduceCtorEq, forall_const, false_or, or_false, true_or, or_true, ne_eq, not_true_eq_false, not_false_eq_true, implies_true, false_implies, Nat.reduceAdd, Nat.reduceSub, Nat.reduceMul, Nat.reduceEqDiff, Nat.reduceLT, Nat.reduceLeDiff, Int.reduceAdd, Int.reduceSub, Int.reduceMul, Int.reduceNeg, Int.reduceToNat, Int.reduceLE, Int.reduceLT, Int.reduceEq, Int.reduceNe, and_self]
    by_cases hc : (0 ≤ d ∧ d ≤ 4) ∧ 0 ≤ l ∧ l ≤ 2
    · by_cases h30 : z.1 20 4 = 10
      · have h4 := h2 hc h30
        (repeat' first | with_reducible apply And.intro | with_reducible intro _) <;> first | omega | assumption | contradiction
      · have h4 := h3 hc h30
        (repeat' first | with_reducible apply And.intro | with_reducible intro _) <;> first | omega | assumption | contradiction
    · have h4 := h1 hc
      (repeat' first | with_reducible apply And.intro | with_reducible intro _) <;> first | omega | assumption | contradiction
  · exact h.elim
def C_X9_event : pvC
  | [.inr (.inr (.inl id)), .inl i, .inl c], z, Q => id = 0 ∧ (0 ≤ z.1 20 4 ∧ z.1 20 4 ≤ 10) ∧
      ((0 ≤ i ∧ i < z.1 20 4) ∧ c = 0 → Q (.inl (some (vI (z.1 21 i.toNat)))) z) ∧
      ((0 ≤ i ∧ i < z.1 20 4) ∧ c = 1 → Q (.inl (some (vI (z.1 22 i.toNat)))) z) ∧
      (¬ ((0 ≤ i ∧ i < z.1 20 4) ∧ (c = 0 ∨ c = 1)) → Q (.inr 0) z)
  | _, _, _ => False
def bX9_event : Nat → List (Instr × Nat)
  | 0 => [(.iload_n 1, 1), (.aload_n 0, 1), (.getfield 42, 3), (.getfield 172, 3), (.invokestatic 97, 3), (.iload_n 2, 1), (.iconst 2, 1), (.invokestatic 97, 3), (.iload_n 2, 1), (.ifCond .ne 14, 3), (.aload_n 0, 1), (.getfield 42, 3), (.iload_n 1, 1), (.invokevirtual 180, 3), (.goto 11, 3)]
  | 31 => [(.aload_n 0, 1), (.getfield 42, 3), (.iload_n 1, 1), (.invokevirtual 183, 3)]
  | 39 => [(.ireturn, 1)]
  | _ => []
def uX9_event : Nat → Option (List Bool)
  | _ => none
def aX9_event : pvCa
  | 97 => some (2, true, 0, 0, C_X9_requireIndex)
  | 180 => some (2, false, 6, 0, C_X6_delayAt)
  | 183 => some (2, false, 6, 0, C_X6_letterAt)
  | _ => none
theorem bX9_event_0 : bX9_event 0 = [(.iload_n 1, 1), (.aload_n 0, 1), (.getfield 42, 3), (.getfield 172, 3), (.invokestatic 97, 3), (.iload_n 2, 1), (.iconst 2, 1), (.invokestatic 97, 3), (.iload_n 2, 1), (.ifCond .ne 14, 3), (.aload_n 0, 1), (.getfield 42, 3), (.iload_n 1, 1), (.invokevirtual 180, 3), (.goto 11, 3)] := rfl
theorem uX9_event_0 : uX9_event 0 = none := rfl
theorem bX9_event_31 : bX9_event 31 = [(.aload_n 0, 1), (.getfield 42, 3), (.iload_n 1, 1), (.invokevirtual 183, 3)] := rfl
theorem uX9_event_31 : uX9_event 31 = none := rfl
theorem bX9_event_39 : bX9_event 39 = [(.ireturn, 1)] := rfl
theorem uX9_event_39 : uX9_event 39 = none := rfl
theorem aX9_event_97 : aX9_event 97 = some (2, true, 0, 0, C_X9_requireIndex) := rfl
theorem aX9_event_180 : aX9_event 180 = some (2, false, 6, 0, C_X6_delayAt) := rfl
theorem aX9_event_183 : aX9_event 183 = some (2, false, 6, 0, C_X6_letterAt) := rfl
set_option maxRecDepth 100000 in
set_option maxHeartbeats 4000000 in
theorem okX9_event : pvOkM fX9 aX9_event kX9 eX9 (some .int) bX9_event uX9_event 3 C_X9_event := by
  intro Q SW hc as z h hS hz
  unfold C_X9_event at h
  split at h
  · rename_i id i c
    obtain ⟨rfl, hl, h1, h2, h3⟩ := h
    refine ⟨Nat.le_of_ble_eq_true rfl, hc 20 _ _ _ fun _ _ => ?_⟩
    clear hc hS hz
    simp only [pvSt1]
    simp only [C_X9_requireIndex, C_X6_delayAt, C_X6_letterAt, pvE_iload_n1, pvLI_s, pvLd, pvE_aload_n0, pvLA_s, pvE_getfield, pvGf_0, pvGf_1, pvGf_2, fX9_42, pvSh_0, pvSh_1, pvSh_2, pvSh_3, pvSh_4, pvSh_5, pvSh_6, pvSh_7, pvSh_8, pvSh_9, pvSh_10, pvSh_11, pvSh_12, pvSh_13, pvSh_14, pvSh_15, pvSh_16, pvSh_17, pvSh_18, pvSh_19, pvSh_20, pvSh_21, pvSh_22, pvSh_23, pvSh_24, pvSh_25, pvSh_26, pvSh_27, pvSh_28, pvSh_29, pvSh_30, pvSh_31, pvSh_32, pvSh_33, pvSh_34, pvSh_35, pvSh_36, pvSh_37, pvSh_38, pvRf_0_0, pvRf_0_1, pvRf_0_2, pvRf_0_3, pvRf_0_4, pvRf_0_5, pvRf_0_6, pvRf_0_7, pvRf_0_8, pvRf_0_9, pvRf_0_10, pvRf_1_0, pvRf_3_0, pvRf_5_0, pvRf_5_1, pvRf_5_2, pvRf_9_0, pvRf_9_1, pvRf_9_2, pvRf_13_0, pvRf_13_1, pvRf_13_2, pvRf_17_0, pvRf_17_2, pvRf_20_0, pvRf_20_1, pvRf_20_2, pvRf_24_0, pvRf_24_1, pvRf_24_2, pvRf_28_0, pvRf_28_1, pvRf_28_2, pvRf_28_3, pvRf_33_0, pvRf_33_1, pvRf_36_0, pvRf_36_1, fX9_172, pvE_invokestatic (h0 := eX9_97), pvC1_s, pvC2_s, pvAf_v, pvAf_x, pvPop, pvCs, pvCat, pvPush, aX9_event_97, pvE_iload_n2, pvE_iconst, pvE_if_ne, pvE_invokevirtual, aX9_event_180, pvE_goto, aX9_event_183, pvE_ireturn, bX9_event_0, uX9_event_0, bX9_event_31, uX9_event_31, bX9_event_39, uX9_event_39, pvRtG, pvRecv_r, pvUp_nl, pvUp_same, pvUp_ap, pvSt_ap, pvX_c, pvX_ms, pvX_mn, pvE_nil, pvEn_i, pvEn_r, pvEn_l, pvEn_0, pvEn_s, pvRt, pvRv, pvTh, pvKc, pvGo, pvTgt, Int.toNat_natCast, false_and, and_false, true_and, and_true, if_true, if_false, reduceIte, reduceCtorEq, forall_const, false_or, or_false, true_or, or_true, ne_eq, not_true_eq_false, not_false_eq_true, implies_true, false_implies, Nat.reduceAdd, Nat.reduceSub, Nat.reduceMul, Nat.reduceEqDiff, Nat.reduceLT, Nat.reduceLeDiff, Int.reduceAdd, Int.reduceSub, Int.reduceMul, Int.reduceNeg, Int.reduceToNat, Int.reduceLE, Int.reduceLT, Int.reduceEq, Int.reduceNe, and_self]
    by_cases hi : 0 ≤ i ∧ i < z.1 20 4
    · by_cases h0 : c = 0
      · have h4 := h1 ⟨hi, h0⟩
        (repeat' first | with_reducible apply And.intro | with_reducible intro _) <;> first | omega | assumption | contradiction
      · by_cases h10 : c = 1
        · have h4 := h2 ⟨hi, h10⟩
          (repeat' first | with_reducible apply And.intro | with_reducible intro _) <;> first | omega | assumption | contradiction
        · have h4 := h3 (fun q => by omega)
          (repeat' first | with_reducible apply And.intro | with_reducible intro _) <;> first | omega | assumption | contradiction
    · have h4 := h3 (fun q => hi q.1)
      (repeat' first | with_reducible apply And.intro | with_reducible intro _) <;> first | omega | assumption | contradiction
  · exact h.elim
def C_X9_valuationBefore : pvC
  | [.inr (.inr (.inl id)), .inl i], z, Q => id = 0 ∧ WcF z.1 ∧
      (0 ≤ i ∧ i < z.1 20 4 → Q (.inl (some (vI (tdF (psF (vaF (z.1 21) (z.1 22) i.toNat) (z.1 21 i.toNat)))))) z) ∧
      (¬ (0 ≤ i ∧ i < z.1 20 4) → Q (.inr 0) z)
  | _, _, _ => False
def bX9_valuationBefore : Nat → List (Instr × Nat)
  | 0 => [(.iload_n 1, 1), (.aload_n 0, 1), (.getfield 42, 3), (.getfield 172, 3), (.invokestatic 97, 3), (.aload_n 0, 1), (.getfield 42, 3), (.iload_n 1, 1), (.invokevirtual 186, 3), (.invokestatic 189, 3), (.ireturn, 1)]
  | _ => []
def uX9_valuationBefore : Nat → Option (List Bool)
  | _ => none
def aX9_valuationBefore : pvCa
  | 97 => some (2, true, 0, 0, C_X9_requireIndex)
  | 186 => some (2, false, 6, 0, C_X6_valuationAt)
  | 189 => some (1, true, 0, 0, C_X7_written)
  | _ => none
theorem bX9_valuationBefore_0 : bX9_valuationBefore 0 = [(.iload_n 1, 1), (.aload_n 0, 1), (.getfield 42, 3), (.getfield 172, 3), (.invokestatic 97, 3), (.aload_n 0, 1), (.getfield 42, 3), (.iload_n 1, 1), (.invokevirtual 186, 3), (.invokestatic 189, 3), (.ireturn, 1)] := rfl
theorem uX9_valuationBefore_0 : uX9_valuationBefore 0 = none := rfl
theorem aX9_valuationBefore_97 : aX9_valuationBefore 97 = some (2, true, 0, 0, C_X9_requireIndex) := rfl
theorem aX9_valuationBefore_186 : aX9_valuationBefore 186 = some (2, false, 6, 0, C_X6_valuationAt) := rfl
theorem aX9_valuationBefore_189 : aX9_valuationBefore 189 = some (1, true, 0, 0, C_X7_written) := rfl
set_option maxRecDepth 100000 in
set_option maxHeartbeats 4000000 in
theorem okX9_valuationBefore : pvOkM fX9 aX9_valuationBefore kX9 eX9 (some .int) bX9_valuationBefore uX9_valuationBefore 2 C_X9_valuationBefore := by
  intro Q SW hc as z h hS hz
  unfold C_X9_valuationBefore at h
  split at h
  · rename_i id i
    obtain ⟨rfl, hw, h1, h2⟩ := h
    refine ⟨Nat.le_of_ble_eq_true rfl, hc 20 _ _ _ fun _ _ => ?_⟩
    clear hc hS hz
    have w4 := hw.1.1
    simp only [pvSt1]
    simp only [C_X9_requireIndex, C_X6_valuationAt, C_X7_written, pvE_iload_n1, pvLI_s, pvLd, pvE_aload_n0, pvLA_s, pvE_getfield, pvGf_0, pvGf_1, pvGf_2, fX9_42, pvSh_0, pvSh_1, pvSh_2, pvSh_3, pvSh_4, pvSh_5, pvSh_6, pvSh_7, pvSh_8, pvSh_9, pvSh_10, pvSh_11, pvSh_12, pvSh_13, pvSh_14, pvSh_15, pvSh_16, pvSh_17, pvSh_18, pvSh_19, pvSh_20, pvSh_21, pvSh_22, pvSh_23, pvSh_24, pvSh_25, pvSh_26, pvSh_27, pvSh_28, pvSh_29, pvSh_30, pvSh_31, pvSh_32, pvSh_33, pvSh_34, pvSh_35, pvSh_36, pvSh_37, pvSh_38, pvRf_0_0, pvRf_0_1, pvRf_0_2, pvRf_0_3, pvRf_0_4, pvRf_0_5, pvRf_0_6, pvRf_0_7, pvRf_0_8, pvRf_0_9, pvRf_0_10, pvRf_1_0, pvRf_3_0, pvRf_5_0, pvRf_5_1, pvRf_5_2, pvRf_9_0, pvRf_9_1, pvRf_9_2, pvRf_13_0, pvRf_13_1, pvRf_13_2, pvRf_17_0, pvRf_17_2, pvRf_20_0, pvRf_20_1, pvRf_20_2, pvRf_24_0, pvRf_24_1, pvRf_24_2, pvRf_28_0, pvRf_28_1, pvRf_28_2, pvRf_28_3, pvRf_33_0, pvRf_33_1, pvRf_36_0, pvRf_36_1, fX9_172, pvE_invokestatic (h0 := eX9_97), pvC1_s, pvC2_s, pvAf_v, pvAf_x, pvPop, pvCs, pvCat, pvPush, aX9_valuationBefore_97, pvE_invokevirtual, aX9_valuationBefore_186, pvE_invokestatic (h0 := eX9_189), aX9_valuationBefore_189, pvE_ireturn, bX9_valuationBefore_0, uX9_valuationBefore_0, pvRtG, pvRecv_r, pvUp_nl, pvUp_same, pvUp_ap, pvSt_ap, pvX_c, pvX_ms, pvX_mn, pvE_nil, pvEn_i, pvEn_r, pvEn_l, pvEn_0, pvEn_s, pvRt, pvRv, pvTh, pvKc, pvGo, pvTgt, Int.toNat_natCast, false_and, and_false, true_and, and_true, if_true, if_false, reduceIte, reduceCtorEq, forall_const, false_or, or_false, true_or, or_true, ne_eq, not_true_eq_false, not_false_eq_true, implies_true, false_implies, Nat.reduceAdd, Nat.reduceSub, Nat.reduceMul, Nat.reduceEqDiff, Nat.reduceLT, Nat.reduceLeDiff, Int.reduceAdd, Int.reduceSub, Int.reduceMul, Int.reduceNeg, Int.reduceToNat, Int.reduceLE, Int.reduceLT, Int.reduceEq, Int.reduceNe, and_self]
    by_cases hi : 0 ≤ i ∧ i < z.1 20 4
    · have h4 := h1 hi
      rw [← hw.2 i.toNat (by omega)] at h4
      have hv := WcF_v hw (k := i.toNat) (by omega)
      (repeat' first | with_reducible apply And.intro | with_reducible intro _) <;> first | omega | assumption | contradiction
    · have h4 := h2 hi
      (repeat' first | with_reducible apply And.intro | with_reducible intro _) <;> first | omega | assumption | contradiction
  · exact h.elim
