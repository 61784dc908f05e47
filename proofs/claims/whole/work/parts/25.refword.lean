/-! the reference: the word and the sets along it -/
def afK (A : Aut) (d l : Nat → Int) : Nat → Int
  | 0 => A.2.1
  | k + 1 => sbF A (afK A d l k) (l k) (psF (vaF d l k) (d k))
theorem afK_r {A : Aut} (h : WfA A) (d l : Nat → Int) (k : Nat) : 0 ≤ afK A d l k ∧ afK A d l k ≤ 15 := by
  cases k with
  | zero => exact h.2.1
  | succ k => exact sbF_r h _ _ _
def C_X10_isEvent : pvC
  | [.inr (.inr (.inl id)), .inl i], z, Q => id = 39 ∧ (0 ≤ z.1 39 7 ∧ z.1 39 7 ≤ 10) ∧ (0 ≤ i ∧ i < z.1 39 7 → Q (.inl (some (vI 1))) z) ∧ (¬ (0 ≤ i ∧ i < z.1 39 7) → Q (.inl (some (vI 0))) z)
  | _, _, _ => False
def bX10_isEvent : Nat → List (Instr × Nat)
  | 0 => [(.iload_n 1, 1), (.iconst 0, 1), (.aload_n 0, 1), (.getfield 158, 3), (.iconst 1, 1), (.isub, 1), (.invokestatic 76, 3), (.ireturn, 1)]
  | _ => []
def uX10_isEvent : Nat → Option (List Bool)
  | _ => none
def aX10_isEvent : pvCa
  | 76 => some (3, true, 0, 0, C_X10_in)
  | _ => none
theorem bX10_isEvent_0 : bX10_isEvent 0 = [(.iload_n 1, 1), (.iconst 0, 1), (.aload_n 0, 1), (.getfield 158, 3), (.iconst 1, 1), (.isub, 1), (.invokestatic 76, 3), (.ireturn, 1)] := rfl
theorem uX10_isEvent_0 : uX10_isEvent 0 = none := rfl
theorem aX10_isEvent_76 : aX10_isEvent 76 = some (3, true, 0, 0, C_X10_in) := rfl
def mX10_isEvent : Room := { frames := 1, cells := 1, slots := 6, locals := 22 }
set_option maxRecDepth 100000 in
set_option maxHeartbeats 4000000 in
theorem okX10_isEvent : pvOkM fX10 aX10_isEvent kX10 eX10 (some .boolean) bX10_isEvent uX10_isEvent 2 C_X10_isEvent := by
  intro Q SW hc as z h hS hz
  unfold C_X10_isEvent at h
  split at h
  · rename_i id i
    obtain ⟨hid, h⟩ := h
    refine ⟨Nat.le_of_ble_eq_true rfl, hc 20 _ _ _ fun _ _ => ?_⟩
    clear hc hS
    subst hid
    (simp only [pvSt1]
     simp only [C_X10_in, pvE_iload_n1, pvLI_s, pvLd, pvE_iconst, pvE_aload_n0, pvLA_s, pvE_getfield, pvGf_0, pvGf_1, pvGf_2, fX10_158, pvSh_0, pvSh_1, pvSh_2, pvSh_3, pvSh_4, pvSh_5, pvSh_6, pvSh_7, pvSh_8, pvSh_9, pvSh_10, pvSh_11, pvSh_12, pvSh_13, pvSh_14, pvSh_15, pvSh_16, pvSh_17, pvSh_18, pvSh_19, pvSh_20, pvSh_21, pvSh_22, pvSh_23, pvSh_24, pvSh_25, pvSh_26, pvSh_27, pvSh_28, pvSh_29, pvSh_30, pvSh_31, pvSh_32, pvSh_33, pvSh_34, pvSh_35, pvSh_36, pvSh_37, pvSh_38, pvSh_39, pvSh_40, pvSh_41, pvSh_42, pvSh_43, pvSh_44, pvSh_45, pvSh_46, pvSh_47, pvSh_48, pvSh_49, pvSh_50, pvSh_51, pvSh_52, pvSh_53, pvSh_54, pvSh_55, pvSh_56, pvSh_57, pvSh_58, pvSh_59, pvRf_0_0, pvRf_0_1, pvRf_0_2, pvRf_0_3, pvRf_0_4, pvRf_0_5, pvRf_0_6, pvRf_0_7, pvRf_0_8, pvRf_0_9, pvRf_0_10, pvRf_1_0, pvRf_3_0, pvRf_5_0, pvRf_5_1, pvRf_5_2, pvRf_9_0, pvRf_9_1, pvRf_9_2, pvRf_13_0, pvRf_13_1, pvRf_13_2, pvRf_17_0, pvRf_17_2, pvRf_20_0, pvRf_20_1, pvRf_20_2, pvRf_24_0, pvRf_24_1, pvRf_24_2, pvRf_28_0, pvRf_28_1, pvRf_28_2, pvRf_28_3, pvRf_33_0, pvRf_33_1, pvRf_36_0, pvRf_36_1, pvRf_39_0, pvRf_39_1, pvRf_39_2, pvRf_39_5, pvRf_39_6, pvRf_39_9, pvRf_39_13, pvRf_39_15, pvRf_39_16, pvRf_39_17, pvRf_39_19, pvRf_39_20, pvRf_39_22, pvRf_39_23, pvRf_39_24, pvRf_39_25, pvRf_39_29, pvRf_39_30, pvE_isub, pvE_invokestatic (h0 := eX10_76), pvC1_s, pvC2_s, pvAf_v, pvAf_x, pvPop, pvCs, pvCat, pvPush, aX10_isEvent_76, pvE_ireturn, bX10_isEvent_0, uX10_isEvent_0, pvRecv_r, pvUp_nl, pvUp_same, pvUp_ap, pvSt_ap, pvX_c, pvX_ms, pvX_mn, pvE_nil, pvEn_i, pvEn_r, pvEn_l, pvEn_0, pvEn_s, pvRt, pvRv, pvTh, pvKc, pvGo, pvTgt, Int.toNat_natCast, false_and, and_false, true_and, and_true, if_true, if_false, reduceIte, reduceCtorEq, forall_const, false_or, or_false, true_or, or_true, ne_eq, not_true_eq_false, not_false_eq_true, implies_true, false_implies, Nat.reduceAdd, Nat.reduceSub, Nat.reduceMul, Nat.reduceEqDiff, Nat.reduceLT, Nat.reduceLeDiff, Int.reduceAdd, Int.reduceSub, Int.reduceMul, Int.reduceNeg, Int.reduceToNat, Int.reduceLE, Int.reduceLT, Int.reduceEq, Int.reduceNe, and_self]
     grind)
  · exact h.elim
def C_X10_appendEvent : pvC
  | [.inr (.inr (.inl id)), .inl d, .inl l], z, Q => id = 39 ∧ (0 ≤ z.1 39 7 ∧ z.1 39 7 ≤ 10) ∧
      (¬ ((0 ≤ d ∧ d ≤ 4) ∧ 0 ≤ l ∧ l ≤ 2) → Q (.inl (some (vI 0))) (pvUp z.1 39 8 1, z.2)) ∧
      ((0 ≤ d ∧ d ≤ 4) ∧ 0 ≤ l ∧ l ≤ 2 → z.1 39 7 = 10 → Q (.inl (some (vI 0))) (pvUp z.1 39 8 2, z.2)) ∧
      ((0 ≤ d ∧ d ≤ 4) ∧ 0 ≤ l ∧ l ≤ 2 → z.1 39 7 ≠ 10 → Q (.inl (some (vI (z.1 39 7 + 1)))) (pvUp (pvUp (pvUp (pvUp z.1 39 8 0) 43 (z.1 39 7).toNat d) 44 (z.1 39 7).toNat l) 39 7 (z.1 39 7 + 1), z.2))
  | _, _, _ => False
def bX10_appendEvent : Nat → List (Instr × Nat)
  | 0 => [(.aload_n 0, 1), (.iconst 0, 1), (.putfield 73, 3), (.iload_n 1, 1), (.iconst 0, 1), (.iconst 4, 1), (.invokestatic 76, 3), (.ifCond .eq 10, 3), (.iload_n 2, 1), (.invokestatic 111, 3), (.ifCond .ne 9, 3)]
  | 21 => [(.aload_n 0, 1), (.iconst 1, 1), (.invokevirtual 87, 3), (.ireturn, 1)]
  | 27 => [(.aload_n 0, 1), (.getfield 158, 3), (.bipush 10, 2), (.if_icmp .ne 9, 3), (.aload_n 0, 1), (.iconst 2, 1), (.invokevirtual 87, 3), (.ireturn, 1)]
  | 42 => [(.aload_n 0, 1), (.getfield 19, 3), (.aload_n 0, 1), (.getfield 158, 3), (.iload_n 1, 1), (.iastore, 1), (.aload_n 0, 1), (.getfield 22, 3), (.aload_n 0, 1), (.getfield 158, 3), (.iload_n 2, 1), (.iastore, 1), (.aload_n 0, 1), (.dup, 1), (.getfield 158, 3), (.iconst 1, 1), (.iadd, 1), (.putfield 158, 3), (.aload_n 0, 1), (.getfield 158, 3), (.ireturn, 1)]
  | _ => []
def uX10_appendEvent : Nat → Option (List Bool)
  | _ => none
def aX10_appendEvent : pvCa
  | 76 => some (3, true, 0, 0, C_X10_in)
  | 87 => some (2, false, 9, 0, C_X10_fails)
  | 111 => some (1, true, 0, 0, C_X10_isLetter)
  | _ => none
theorem bX10_appendEvent_0 : bX10_appendEvent 0 = [(.aload_n 0, 1), (.iconst 0, 1), (.putfield 73, 3), (.iload_n 1, 1), (.iconst 0, 1), (.iconst 4, 1), (.invokestatic 76, 3), (.ifCond .eq 10, 3), (.iload_n 2, 1), (.invokestatic 111, 3), (.ifCond .ne 9, 3)] := rfl
theorem uX10_appendEvent_0 : uX10_appendEvent 0 = none := rfl
theorem bX10_appendEvent_21 : bX10_appendEvent 21 = [(.aload_n 0, 1), (.iconst 1, 1), (.invokevirtual 87, 3), (.ireturn, 1)] := rfl
theorem uX10_appendEvent_21 : uX10_appendEvent 21 = none := rfl
theorem bX10_appendEvent_27 : bX10_appendEvent 27 = [(.aload_n 0, 1), (.getfield 158, 3), (.bipush 10, 2), (.if_icmp .ne 9, 3), (.aload_n 0, 1), (.iconst 2, 1), (.invokevirtual 87, 3), (.ireturn, 1)] := rfl
theorem uX10_appendEvent_27 : uX10_appendEvent 27 = none := rfl
theorem bX10_appendEvent_42 : bX10_appendEvent 42 = [(.aload_n 0, 1), (.getfield 19, 3), (.aload_n 0, 1), (.getfield 158, 3), (.iload_n 1, 1), (.iastore, 1), (.aload_n 0, 1), (.getfield 22, 3), (.aload_n 0, 1), (.getfield 158, 3), (.iload_n 2, 1), (.iastore, 1), (.aload_n 0, 1), (.dup, 1), (.getfield 158, 3), (.iconst 1, 1), (.iadd, 1), (.putfield 158, 3), (.aload_n 0, 1), (.getfield 158, 3), (.ireturn, 1)] := rfl
theorem uX10_appendEvent_42 : uX10_appendEvent 42 = none := rfl
theorem aX10_appendEvent_76 : aX10_appendEvent 76 = some (3, true, 0, 0, C_X10_in) := rfl
theorem aX10_appendEvent_87 : aX10_appendEvent 87 = some (2, false, 9, 0, C_X10_fails) := rfl
theorem aX10_appendEvent_111 : aX10_appendEvent 111 = some (1, true, 0, 0, C_X10_isLetter) := rfl
def mX10_appendEvent : Room := { frames := 2, cells := 1, slots := 6, locals := 42 }
set_option maxRecDepth 100000 in
set_option maxHeartbeats 4000000 in
theorem okX10_appendEvent : pvOkM fX10 aX10_appendEvent kX10 eX10 (some .int) bX10_appendEvent uX10_appendEvent 3 C_X10_appendEvent := by
  intro Q SW hc as z h hS hz
  unfold C_X10_appendEvent at h
  split at h
  · rename_i id d l
    obtain ⟨hid, h⟩ := h
    refine ⟨Nat.le_of_ble_eq_true rfl, hc 20 _ _ _ fun _ _ => ?_⟩
    clear hc hS
    subst hid
    (simp only [pvSt1]
     simp only [C_X10_in, C_X10_isLetter, C_X10_fails, pvE_aload_n0, pvLA_s, pvLd, pvE_iconst, pvE_putfield, pvPf_0, pvPf_1, fX10_73, pvSh_0, pvSh_1, pvSh_2, pvSh_3, pvSh_4, pvSh_5, pvSh_6, pvSh_7, pvSh_8, pvSh_9, pvSh_10, pvSh_11, pvSh_12, pvSh_13, pvSh_14, pvSh_15, pvSh_16, pvSh_17, pvSh_18, pvSh_19, pvSh_20, pvSh_21, pvSh_22, pvSh_23, pvSh_24, pvSh_25, pvSh_26, pvSh_27, pvSh_28, pvSh_29, pvSh_30, pvSh_31, pvSh_32, pvSh_33, pvSh_34, pvSh_35, pvSh_36, pvSh_37, pvSh_38, pvSh_39, pvSh_40, pvSh_41, pvSh_42, pvSh_43, pvSh_44, pvSh_45, pvSh_46, pvSh_47, pvSh_48, pvSh_49, pvSh_50, pvSh_51, pvSh_52, pvSh_53, pvSh_54, pvSh_55, pvSh_56, pvSh_57, pvSh_58, pvSh_59, pvE_iload_n1, pvLI_s, pvE_invokestatic (h0 := eX10_76), pvC1_s, pvC2_s, pvAf_v, pvAf_x, pvPop, pvCs, pvCat, pvPush, aX10_appendEvent_76, pvE_if_eq, pvE_iload_n2, pvE_invokestatic (h0 := eX10_111), aX10_appendEvent_111, pvE_if_ne, pvE_invokevirtual, aX10_appendEvent_87, pvE_ireturn, pvE_getfield, pvGf_0, pvGf_1, pvGf_2, fX10_158, pvRf_0_0, pvRf_0_1, pvRf_0_2, pvRf_0_3, pvRf_0_4, pvRf_0_5, pvRf_0_6, pvRf_0_7, pvRf_0_8, pvRf_0_9, pvRf_0_10, pvRf_1_0, pvRf_3_0, pvRf_5_0, pvRf_5_1, pvRf_5_2, pvRf_9_0, pvRf_9_1, pvRf_9_2, pvRf_13_0, pvRf_13_1, pvRf_13_2, pvRf_17_0, pvRf_17_2, pvRf_20_0, pvRf_20_1, pvRf_20_2, pvRf_24_0, pvRf_24_1, pvRf_24_2, pvRf_28_0, pvRf_28_1, pvRf_28_2, pvRf_28_3, pvRf_33_0, pvRf_33_1, pvRf_36_0, pvRf_36_1, pvRf_39_0, pvRf_39_1, pvRf_39_2, pvRf_39_5, pvRf_39_6, pvRf_39_9, pvRf_39_13, pvRf_39_15, pvRf_39_16, pvRf_39_17, pvRf_39_19, pvRf_39_20, pvRf_39_22, pvRf_39_23, pvRf_39_24, pvRf_39_25, pvRf_39_29, pvRf_39_30, pvE_bipush, pvE_icmp_ne, fX10_19, pvE_iastore, pvAI, fX10_22, pvE_dup_i, pvE_dup_r, pvE_iadd, bX10_appendEvent_0, uX10_appendEvent_0, bX10_appendEvent_21, uX10_appendEvent_21, bX10_appendEvent_27, uX10_appendEvent_27, bX10_appendEvent_42, uX10_appendEvent_42, pvRecv_r, pvUp_nl, pvUp_same, pvUp_ap, pvSt_ap, pvX_c, pvX_ms, pvX_mn, pvE_nil, pvEn_i, pvEn_r, pvEn_l, pvEn_0, pvEn_s, pvRt, pvRv, pvTh, pvKc, pvGo, pvTgt, Int.toNat_natCast, false_and, and_false, true_and, and_true, if_true, if_false, reduceIte, reduceCtorEq, forall_const, false_or, or_false, true_or, or_true, ne_eq, not_true_eq_false, not_false_eq_true, implies_true, false_implies, Nat.reduceAdd, Nat.reduceSub, Nat.reduceMul, Nat.reduceEqDiff, Nat.reduceLT, Nat.reduceLeDiff, Int.reduceAdd, Int.reduceSub, Int.reduceMul, Int.reduceNeg, Int.reduceToNat, Int.reduceLE, Int.reduceLT, Int.reduceEq, Int.reduceNe, and_self]
     grind)
  · exact h.elim
def C_X10_clearWord : pvC
  | [.inr (.inr (.inl id))], z, Q => id = 39 ∧ Q (.inl (some (vI (z.1 39 7)))) (pvUp (pvUp z.1 39 8 0) 39 7 0, z.2)
  | _, _, _ => False
def bX10_clearWord : Nat → List (Instr × Nat)
  | 0 => [(.aload_n 0, 1), (.iconst 0, 1), (.putfield 73, 3), (.aload_n 0, 1), (.getfield 158, 3), (.istore_n 1, 1), (.aload_n 0, 1), (.iconst 0, 1), (.putfield 158, 3), (.iload_n 1, 1), (.ireturn, 1)]
  | _ => []
def uX10_clearWord : Nat → Option (List Bool)
  | _ => none
def aX10_clearWord : pvCa
  | _ => none
theorem bX10_clearWord_0 : bX10_clearWord 0 = [(.aload_n 0, 1), (.iconst 0, 1), (.putfield 73, 3), (.aload_n 0, 1), (.getfield 158, 3), (.istore_n 1, 1), (.aload_n 0, 1), (.iconst 0, 1), (.putfield 158, 3), (.iload_n 1, 1), (.ireturn, 1)] := rfl
theorem uX10_clearWord_0 : uX10_clearWord 0 = none := rfl
def mX10_clearWord : Room := { frames := 0, cells := 1, slots := 6, locals := 0 }
set_option maxRecDepth 100000 in
set_option maxHeartbeats 4000000 in
theorem okX10_clearWord : pvOkM fX10 aX10_clearWord kX10 eX10 (some .int) bX10_clearWord uX10_clearWord 2 C_X10_clearWord := by
  intro Q SW hc as z h hS hz
  unfold C_X10_clearWord at h
  split at h
  · rename_i id
    obtain ⟨hid, h⟩ := h
    refine ⟨Nat.le_of_ble_eq_true rfl, hc 20 _ _ _ fun _ _ => ?_⟩
    clear hc hS
    subst hid
    (simp only [pvSt1]
     simp only [pvE_aload_n0, pvLA_s, pvLd, pvE_iconst, pvE_putfield, pvPf_0, pvPf_1, fX10_73, pvSh_0, pvSh_1, pvSh_2, pvSh_3, pvSh_4, pvSh_5, pvSh_6, pvSh_7, pvSh_8, pvSh_9, pvSh_10, pvSh_11, pvSh_12, pvSh_13, pvSh_14, pvSh_15, pvSh_16, pvSh_17, pvSh_18, pvSh_19, pvSh_20, pvSh_21, pvSh_22, pvSh_23, pvSh_24, pvSh_25, pvSh_26, pvSh_27, pvSh_28, pvSh_29, pvSh_30, pvSh_31, pvSh_32, pvSh_33, pvSh_34, pvSh_35, pvSh_36, pvSh_37, pvSh_38, pvSh_39, pvSh_40, pvSh_41, pvSh_42, pvSh_43, pvSh_44, pvSh_45, pvSh_46, pvSh_47, pvSh_48, pvSh_49, pvSh_50, pvSh_51, pvSh_52, pvSh_53, pvSh_54, pvSh_55, pvSh_56, pvSh_57, pvSh_58, pvSh_59, pvE_getfield, pvGf_0, pvGf_1, pvGf_2, fX10_158, pvRf_0_0, pvRf_0_1, pvRf_0_2, pvRf_0_3, pvRf_0_4, pvRf_0_5, pvRf_0_6, pvRf_0_7, pvRf_0_8, pvRf_0_9, pvRf_0_10, pvRf_1_0, pvRf_3_0, pvRf_5_0, pvRf_5_1, pvRf_5_2, pvRf_9_0, pvRf_9_1, pvRf_9_2, pvRf_13_0, pvRf_13_1, pvRf_13_2, pvRf_17_0, pvRf_17_2, pvRf_20_0, pvRf_20_1, pvRf_20_2, pvRf_24_0, pvRf_24_1, pvRf_24_2, pvRf_28_0, pvRf_28_1, pvRf_28_2, pvRf_28_3, pvRf_33_0, pvRf_33_1, pvRf_36_0, pvRf_36_1, pvRf_39_0, pvRf_39_1, pvRf_39_2, pvRf_39_5, pvRf_39_6, pvRf_39_9, pvRf_39_13, pvRf_39_15, pvRf_39_16, pvRf_39_17, pvRf_39_19, pvRf_39_20, pvRf_39_22, pvRf_39_23, pvRf_39_24, pvRf_39_25, pvRf_39_29, pvRf_39_30, pvE_istore_n1, pvS1, List.length_cons, List.length_nil, pvClr_i, pvClr_r, pvClr_l, pvClr_d, pvClr_f, pvClr_n, pvE_iload_n1, pvLI_s, pvE_ireturn, bX10_clearWord_0, uX10_clearWord_0, pvRecv_r, pvUp_nl, pvUp_same, pvUp_ap, pvSt_ap, pvX_c, pvX_ms, pvX_mn, pvE_nil, pvEn_i, pvEn_r, pvEn_l, pvEn_0, pvEn_s, pvRt, pvRv, pvTh, pvKc, pvGo, pvTgt, Int.toNat_natCast, false_and, and_false, true_and, and_true, if_true, if_false, reduceIte, reduceCtorEq, forall_const, false_or, or_false, true_or, or_true, ne_eq, not_true_eq_false, not_false_eq_true, implies_true, false_implies, Nat.reduceAdd, Nat.reduceSub, Nat.reduceMul, Nat.reduceEqDiff, Nat.reduceLT, Nat.reduceLeDiff, Int.reduceAdd, Int.reduceSub, Int.reduceMul, Int.reduceNeg, Int.reduceToNat, Int.reduceLE, Int.reduceLT, Int.reduceEq, Int.reduceNe, and_self]
     grind)
  · exact h.elim
def C_X10_wordLength : pvC
  | [.inr (.inr (.inl id))], z, Q => id = 39 ∧ Q (.inl (some (vI (z.1 39 7)))) (pvUp z.1 39 8 0, z.2)
  | _, _, _ => False
def bX10_wordLength : Nat → List (Instr × Nat)
  | 0 => [(.aload_n 0, 1), (.iconst 0, 1), (.putfield 73, 3), (.aload_n 0, 1), (.getfield 158, 3), (.ireturn, 1)]
  | _ => []
def uX10_wordLength : Nat → Option (List Bool)
  | _ => none
def aX10_wordLength : pvCa
  | _ => none
theorem bX10_wordLength_0 : bX10_wordLength 0 = [(.aload_n 0, 1), (.iconst 0, 1), (.putfield 73, 3), (.aload_n 0, 1), (.getfield 158, 3), (.ireturn, 1)] := rfl
theorem uX10_wordLength_0 : uX10_wordLength 0 = none := rfl
def mX10_wordLength : Room := { frames := 0, cells := 1, slots := 6, locals := 0 }
set_option maxRecDepth 100000 in
set_option maxHeartbeats 4000000 in
theorem okX10_wordLength : pvOkM fX10 aX10_wordLength kX10 eX10 (some .int) bX10_wordLength uX10_wordLength 1 C_X10_wordLength := by
  intro Q SW hc as z h hS hz
  unfold C_X10_wordLength at h
  split at h
  · rename_i id
    obtain ⟨hid, h⟩ := h
    refine ⟨Nat.le_of_ble_eq_true rfl, hc 20 _ _ _ fun _ _ => ?_⟩
    clear hc hS
    subst hid
    (simp only [pvSt1]
     simp only [pvE_aload_n0, pvLA_s, pvLd, pvE_iconst, pvE_putfield, pvPf_0, pvPf_1, fX10_73, pvSh_0, pvSh_1, pvSh_2, pvSh_3, pvSh_4, pvSh_5, pvSh_6, pvSh_7, pvSh_8, pvSh_9, pvSh_10, pvSh_11, pvSh_12, pvSh_13, pvSh_14, pvSh_15, pvSh_16, pvSh_17, pvSh_18, pvSh_19, pvSh_20, pvSh_21, pvSh_22, pvSh_23, pvSh_24, pvSh_25, pvSh_26, pvSh_27, pvSh_28, pvSh_29, pvSh_30, pvSh_31, pvSh_32, pvSh_33, pvSh_34, pvSh_35, pvSh_36, pvSh_37, pvSh_38, pvSh_39, pvSh_40, pvSh_41, pvSh_42, pvSh_43, pvSh_44, pvSh_45, pvSh_46, pvSh_47, pvSh_48, pvSh_49, pvSh_50, pvSh_51, pvSh_52, pvSh_53, pvSh_54, pvSh_55, pvSh_56, pvSh_57, pvSh_58, pvSh_59, pvE_getfield, pvGf_0, pvGf_1, pvGf_2, fX10_158, pvRf_0_0, pvRf_0_1, pvRf_0_2, pvRf_0_3, pvRf_0_4, pvRf_0_5, pvRf_0_6, pvRf_0_7, pvRf_0_8, pvRf_0_9, pvRf_0_10, pvRf_1_0, pvRf_3_0, pvRf_5_0, pvRf_5_1, pvRf_5_2, pvRf_9_0, pvRf_9_1, pvRf_9_2, pvRf_13_0, pvRf_13_1, pvRf_13_2, pvRf_17_0, pvRf_17_2, pvRf_20_0, pvRf_20_1, pvRf_20_2, pvRf_24_0, pvRf_24_1, pvRf_24_2, pvRf_28_0, pvRf_28_1, pvRf_28_2, pvRf_28_3, pvRf_33_0, pvRf_33_1, pvRf_36_0, pvRf_36_1, pvRf_39_0, pvRf_39_1, pvRf_39_2, pvRf_39_5, pvRf_39_6, pvRf_39_9, pvRf_39_13, pvRf_39_15, pvRf_39_16, pvRf_39_17, pvRf_39_19, pvRf_39_20, pvRf_39_22, pvRf_39_23, pvRf_39_24, pvRf_39_25, pvRf_39_29, pvRf_39_30, pvE_ireturn, bX10_wordLength_0, uX10_wordLength_0, pvRecv_r, pvUp_nl, pvUp_same, pvUp_ap, pvSt_ap, pvX_c, pvX_ms, pvX_mn, pvE_nil, pvEn_i, pvEn_r, pvEn_l, pvEn_0, pvEn_s, pvRt, pvRv, pvTh, pvKc, pvGo, pvTgt, Int.toNat_natCast, false_and, and_false, true_and, and_true, if_true, if_false, reduceIte, reduceCtorEq, forall_const, false_or, or_false, true_or, or_true, ne_eq, not_true_eq_false, not_false_eq_true, implies_true, false_implies, Nat.reduceAdd, Nat.reduceSub, Nat.reduceMul, Nat.reduceEqDiff, Nat.reduceLT, Nat.reduceLeDiff, Int.reduceAdd, Int.reduceSub, Int.reduceMul, Int.reduceNeg, Int.reduceToNat, Int.reduceLE, Int.reduceLT, Int.reduceEq, Int.reduceNe, and_self]
     grind)
  · exact h.elim
def C_X10_faultPosition : pvC
  | [.inr (.inr (.inl id))], z, Q => id = 39 ∧ Q (.inl (some (vI (z.1 39 12)))) (pvUp z.1 39 8 0, z.2)
  | _, _, _ => False
def bX10_faultPosition : Nat → List (Instr × Nat)
  | 0 => [(.aload_n 0, 1), (.iconst 0, 1), (.putfield 73, 3), (.aload_n 0, 1), (.getfield 28, 3), (.ireturn, 1)]
  | _ => []
def uX10_faultPosition : Nat → Option (List Bool)
  | _ => none
def aX10_faultPosition : pvCa
  | _ => none
theorem bX10_faultPosition_0 : bX10_faultPosition 0 = [(.aload_n 0, 1), (.iconst 0, 1), (.putfield 73, 3), (.aload_n 0, 1), (.getfield 28, 3), (.ireturn, 1)] := rfl
theorem uX10_faultPosition_0 : uX10_faultPosition 0 = none := rfl
def mX10_faultPosition : Room := { frames := 0, cells := 1, slots := 6, locals := 0 }
set_option maxRecDepth 100000 in
set_option maxHeartbeats 4000000 in
theorem okX10_faultPosition : pvOkM fX10 aX10_faultPosition kX10 eX10 (some .int) bX10_faultPosition uX10_faultPosition 1 C_X10_faultPosition := by
  intro Q SW hc as z h hS hz
  unfold C_X10_faultPosition at h
  split at h
  · rename_i id
    obtain ⟨hid, h⟩ := h
    refine ⟨Nat.le_of_ble_eq_true rfl, hc 20 _ _ _ fun _ _ => ?_⟩
    clear hc hS
    subst hid
    (simp only [pvSt1]
     simp only [pvE_aload_n0, pvLA_s, pvLd, pvE_iconst, pvE_putfield, pvPf_0, pvPf_1, fX10_73, pvSh_0, pvSh_1, pvSh_2, pvSh_3, pvSh_4, pvSh_5, pvSh_6, pvSh_7, pvSh_8, pvSh_9, pvSh_10, pvSh_11, pvSh_12, pvSh_13, pvSh_14, pvSh_15, pvSh_16, pvSh_17, pvSh_18, pvSh_19, pvSh_20, pvSh_21, pvSh_22, pvSh_23, pvSh_24, pvSh_25, pvSh_26, pvSh_27, pvSh_28, pvSh_29, pvSh_30, pvSh_31, pvSh_32, pvSh_33, pvSh_34, pvSh_35, pvSh_36, pvSh_37, pvSh_38, pvSh_39, pvSh_40, pvSh_41, pvSh_42, pvSh_43, pvSh_44, pvSh_45, pvSh_46, pvSh_47, pvSh_48, pvSh_49, pvSh_50, pvSh_51, pvSh_52, pvSh_53, pvSh_54, pvSh_55, pvSh_56, pvSh_57, pvSh_58, pvSh_59, pvE_getfield, pvGf_0, pvGf_1, pvGf_2, fX10_28, pvRf_0_0, pvRf_0_1, pvRf_0_2, pvRf_0_3, pvRf_0_4, pvRf_0_5, pvRf_0_6, pvRf_0_7, pvRf_0_8, pvRf_0_9, pvRf_0_10, pvRf_1_0, pvRf_3_0, pvRf_5_0, pvRf_5_1, pvRf_5_2, pvRf_9_0, pvRf_9_1, pvRf_9_2, pvRf_13_0, pvRf_13_1, pvRf_13_2, pvRf_17_0, pvRf_17_2, pvRf_20_0, pvRf_20_1, pvRf_20_2, pvRf_24_0, pvRf_24_1, pvRf_24_2, pvRf_28_0, pvRf_28_1, pvRf_28_2, pvRf_28_3, pvRf_33_0, pvRf_33_1, pvRf_36_0, pvRf_36_1, pvRf_39_0, pvRf_39_1, pvRf_39_2, pvRf_39_5, pvRf_39_6, pvRf_39_9, pvRf_39_13, pvRf_39_15, pvRf_39_16, pvRf_39_17, pvRf_39_19, pvRf_39_20, pvRf_39_22, pvRf_39_23, pvRf_39_24, pvRf_39_25, pvRf_39_29, pvRf_39_30, pvE_ireturn, bX10_faultPosition_0, uX10_faultPosition_0, pvRecv_r, pvUp_nl, pvUp_same, pvUp_ap, pvSt_ap, pvX_c, pvX_ms, pvX_mn, pvE_nil, pvEn_i, pvEn_r, pvEn_l, pvEn_0, pvEn_s, pvRt, pvRv, pvTh, pvKc, pvGo, pvTgt, Int.toNat_natCast, false_and, and_false, true_and, and_true, if_true, if_false, reduceIte, reduceCtorEq, forall_const, false_or, or_false, true_or, or_true, ne_eq, not_true_eq_false, not_false_eq_true, implies_true, false_implies, Nat.reduceAdd, Nat.reduceSub, Nat.reduceMul, Nat.reduceEqDiff, Nat.reduceLT, Nat.reduceLeDiff, Int.reduceAdd, Int.reduceSub, Int.reduceMul, Int.reduceNeg, Int.reduceToNat, Int.reduceLE, Int.reduceLT, Int.reduceEq, Int.reduceNe, and_self]
     grind)
  · exact h.elim
def C_X10_event : pvC
  | [.inr (.inr (.inl id)), .inl i, .inl c], z, Q => id = 39 ∧ (0 ≤ z.1 39 7 ∧ z.1 39 7 ≤ 10) ∧
      ((0 ≤ i ∧ i < z.1 39 7) ∧ c = 0 → Q (.inl (some (vI (z.1 43 i.toNat)))) (pvUp z.1 39 8 0, z.2)) ∧
      ((0 ≤ i ∧ i < z.1 39 7) ∧ c = 1 → Q (.inl (some (vI (z.1 44 i.toNat)))) (pvUp z.1 39 8 0, z.2)) ∧
      (¬ ((0 ≤ i ∧ i < z.1 39 7) ∧ (c = 0 ∨ c = 1)) → Q (.inl (some (vI 0))) (pvUp z.1 39 8 1, z.2))
  | _, _, _ => False
def bX10_event : Nat → List (Instr × Nat)
  | 0 => [(.aload_n 0, 1), (.iconst 0, 1), (.putfield 73, 3), (.aload_n 0, 1), (.iload_n 1, 1), (.invokevirtual 161, 3), (.ifCond .eq 12, 3), (.iload_n 2, 1), (.iconst 0, 1), (.iconst 1, 1), (.invokestatic 76, 3), (.ifCond .ne 9, 3)]
  | 22 => [(.aload_n 0, 1), (.iconst 1, 1), (.invokevirtual 87, 3), (.ireturn, 1)]
  | 28 => [(.iload_n 2, 1), (.ifCond .ne 12, 3), (.aload_n 0, 1), (.getfield 19, 3), (.iload_n 1, 1), (.iaload, 1), (.goto 9, 3)]
  | 41 => [(.aload_n 0, 1), (.getfield 22, 3), (.iload_n 1, 1), (.iaload, 1)]
  | 47 => [(.ireturn, 1)]
  | _ => []
def uX10_event : Nat → Option (List Bool)
  | _ => none
def aX10_event : pvCa
  | 76 => some (3, true, 0, 0, C_X10_in)
  | 87 => some (2, false, 9, 0, C_X10_fails)
  | 161 => some (2, false, 9, 0, C_X10_isEvent)
  | _ => none
theorem bX10_event_0 : bX10_event 0 = [(.aload_n 0, 1), (.iconst 0, 1), (.putfield 73, 3), (.aload_n 0, 1), (.iload_n 1, 1), (.invokevirtual 161, 3), (.ifCond .eq 12, 3), (.iload_n 2, 1), (.iconst 0, 1), (.iconst 1, 1), (.invokestatic 76, 3), (.ifCond .ne 9, 3)] := rfl
theorem uX10_event_0 : uX10_event 0 = none := rfl
theorem bX10_event_22 : bX10_event 22 = [(.aload_n 0, 1), (.iconst 1, 1), (.invokevirtual 87, 3), (.ireturn, 1)] := rfl
theorem uX10_event_22 : uX10_event 22 = none := rfl
theorem bX10_event_28 : bX10_event 28 = [(.iload_n 2, 1), (.ifCond .ne 12, 3), (.aload_n 0, 1), (.getfield 19, 3), (.iload_n 1, 1), (.iaload, 1), (.goto 9, 3)] := rfl
theorem uX10_event_28 : uX10_event 28 = none := rfl
theorem bX10_event_41 : bX10_event 41 = [(.aload_n 0, 1), (.getfield 22, 3), (.iload_n 1, 1), (.iaload, 1)] := rfl
theorem uX10_event_41 : uX10_event 41 = none := rfl
theorem bX10_event_47 : bX10_event 47 = [(.ireturn, 1)] := rfl
theorem uX10_event_47 : uX10_event 47 = none := rfl
theorem aX10_event_76 : aX10_event 76 = some (3, true, 0, 0, C_X10_in) := rfl
theorem aX10_event_87 : aX10_event 87 = some (2, false, 9, 0, C_X10_fails) := rfl
theorem aX10_event_161 : aX10_event 161 = some (2, false, 9, 0, C_X10_isEvent) := rfl
def mX10_event : Room := { frames := 2, cells := 1, slots := 6, locals := 43 }
set_option maxRecDepth 100000 in
set_option maxHeartbeats 4000000 in
theorem okX10_event : pvOkM fX10 aX10_event kX10 eX10 (some .int) bX10_event uX10_event 3 C_X10_event := by
  intro Q SW hc as z h hS hz
  unfold C_X10_event at h
  split at h
  · rename_i id i c
    obtain ⟨hid, h⟩ := h
    refine ⟨Nat.le_of_ble_eq_true rfl, hc 20 _ _ _ fun _ _ => ?_⟩
    clear hc hS
    subst hid
    (simp only [pvSt1]
     simp only [C_X10_isEvent, C_X10_in, C_X10_fails, pvE_aload_n0, pvLA_s, pvLd, pvE_iconst, pvE_putfield, pvPf_0, pvPf_1, fX10_73, pvSh_0, pvSh_1, pvSh_2, pvSh_3, pvSh_4, pvSh_5, pvSh_6, pvSh_7, pvSh_8, pvSh_9, pvSh_10, pvSh_11, pvSh_12, pvSh_13, pvSh_14, pvSh_15, pvSh_16, pvSh_17, pvSh_18, pvSh_19, pvSh_20, pvSh_21, pvSh_22, pvSh_23, pvSh_24, pvSh_25, pvSh_26, pvSh_27, pvSh_28, pvSh_29, pvSh_30, pvSh_31, pvSh_32, pvSh_33, pvSh_34, pvSh_35, pvSh_36, pvSh_37, pvSh_38, pvSh_39, pvSh_40, pvSh_41, pvSh_42, pvSh_43, pvSh_44, pvSh_45, pvSh_46, pvSh_47, pvSh_48, pvSh_49, pvSh_50, pvSh_51, pvSh_52, pvSh_53, pvSh_54, pvSh_55, pvSh_56, pvSh_57, pvSh_58, pvSh_59, pvE_iload_n1, pvLI_s, pvE_invokevirtual, pvC1_s, pvC2_s, pvAf_v, pvAf_x, pvPop, pvCs, pvCat, pvPush, aX10_event_161, pvE_if_eq, pvE_iload_n2, pvE_invokestatic (h0 := eX10_76), aX10_event_76, pvE_if_ne, aX10_event_87, pvE_ireturn, pvE_getfield, pvGf_0, pvGf_1, pvGf_2, fX10_19, pvRf_0_0, pvRf_0_1, pvRf_0_2, pvRf_0_3, pvRf_0_4, pvRf_0_5, pvRf_0_6, pvRf_0_7, pvRf_0_8, pvRf_0_9, pvRf_0_10, pvRf_1_0, pvRf_3_0, pvRf_5_0, pvRf_5_1, pvRf_5_2, pvRf_9_0, pvRf_9_1, pvRf_9_2, pvRf_13_0, pvRf_13_1, pvRf_13_2, pvRf_17_0, pvRf_17_2, pvRf_20_0, pvRf_20_1, pvRf_20_2, pvRf_24_0, pvRf_24_1, pvRf_24_2, pvRf_28_0, pvRf_28_1, pvRf_28_2, pvRf_28_3, pvRf_33_0, pvRf_33_1, pvRf_36_0, pvRf_36_1, pvRf_39_0, pvRf_39_1, pvRf_39_2, pvRf_39_5, pvRf_39_6, pvRf_39_9, pvRf_39_13, pvRf_39_15, pvRf_39_16, pvRf_39_17, pvRf_39_19, pvRf_39_20, pvRf_39_22, pvRf_39_23, pvRf_39_24, pvRf_39_25, pvRf_39_29, pvRf_39_30, pvE_iaload, pvAI, pvE_goto, fX10_22, bX10_event_0, uX10_event_0, bX10_event_22, uX10_event_22, bX10_event_28, uX10_event_28, bX10_event_41, uX10_event_41, bX10_event_47, uX10_event_47, pvRecv_r, pvUp_nl, pvUp_same, pvUp_ap, pvSt_ap, pvX_c, pvX_ms, pvX_mn, pvE_nil, pvEn_i, pvEn_r, pvEn_l, pvEn_0, pvEn_s, pvRt, pvRv, pvTh, pvKc, pvGo, pvTgt, Int.toNat_natCast, false_and, and_false, true_and, and_true, if_true, if_false, reduceIte, reduceCtorEq, forall_const, false_or, or_false, true_or, or_true, ne_eq, not_true_eq_false, not_false_eq_true, implies_true, false_implies, Nat.reduceAdd, Nat.reduceSub, Nat.reduceMul, Nat.reduceEqDiff, Nat.reduceLT, Nat.reduceLeDiff, Int.reduceAdd, Int.reduceSub, Int.reduceMul, Int.reduceNeg, Int.reduceToNat, Int.reduceLE, Int.reduceLT, Int.reduceEq, Int.reduceNe, and_self]
     grind)
  · exact h.elim
def C_X10_valuationBefore : pvC
  | [.inr (.inr (.inl id)), .inl i], z, Q => id = 39 ∧ WdF (z.1 39 7) (z.1 43) (z.1 44) ∧
      (0 ≤ i ∧ i < z.1 39 7 → Q (.inl (some (vI (tdF (psF (vaF (z.1 43) (z.1 44) i.toNat) (z.1 43 i.toNat)))))) (pvUp z.1 39 8 0, z.2)) ∧
      (¬ (0 ≤ i ∧ i < z.1 39 7) → Q (.inl (some (vI 0))) (pvUp z.1 39 8 1, z.2))
  | _, _, _ => False
def bX10_valuationBefore : Nat → List (Instr × Nat)
  | 0 => [(.aload_n 0, 1), (.iconst 0, 1), (.putfield 73, 3), (.aload_n 0, 1), (.iload_n 1, 1), (.invokevirtual 161, 3), (.ifCond .eq 14, 3), (.aload_n 0, 1), (.iload_n 1, 1), (.invokevirtual 170, 3), (.invokestatic 173, 3), (.goto 8, 3)]
  | 24 => [(.aload_n 0, 1), (.iconst 1, 1), (.invokevirtual 87, 3)]
  | 29 => [(.ireturn, 1)]
  | _ => []
def uX10_valuationBefore : Nat → Option (List Bool)
  | _ => none
def aX10_valuationBefore : pvCa
  | 87 => some (2, false, 9, 0, C_X10_fails)
  | 161 => some (2, false, 9, 0, C_X10_isEvent)
  | 170 => some (2, false, 9, 0, C_X10_reads)
  | 173 => some (1, true, 0, 0, C_X10_told)
  | _ => none
theorem bX10_valuationBefore_0 : bX10_valuationBefore 0 = [(.aload_n 0, 1), (.iconst 0, 1), (.putfield 73, 3), (.aload_n 0, 1), (.iload_n 1, 1), (.invokevirtual 161, 3), (.ifCond .eq 14, 3), (.aload_n 0, 1), (.iload_n 1, 1), (.invokevirtual 170, 3), (.invokestatic 173, 3), (.goto 8, 3)] := rfl
theorem uX10_valuationBefore_0 : uX10_valuationBefore 0 = none := rfl
theorem bX10_valuationBefore_24 : bX10_valuationBefore 24 = [(.aload_n 0, 1), (.iconst 1, 1), (.invokevirtual 87, 3)] := rfl
theorem uX10_valuationBefore_24 : uX10_valuationBefore 24 = none := rfl
theorem bX10_valuationBefore_29 : bX10_valuationBefore 29 = [(.ireturn, 1)] := rfl
theorem uX10_valuationBefore_29 : uX10_valuationBefore 29 = none := rfl
theorem aX10_valuationBefore_87 : aX10_valuationBefore 87 = some (2, false, 9, 0, C_X10_fails) := rfl
theorem aX10_valuationBefore_161 : aX10_valuationBefore 161 = some (2, false, 9, 0, C_X10_isEvent) := rfl
theorem aX10_valuationBefore_170 : aX10_valuationBefore 170 = some (2, false, 9, 0, C_X10_reads) := rfl
theorem aX10_valuationBefore_173 : aX10_valuationBefore 173 = some (1, true, 0, 0, C_X10_told) := rfl
def mX10_valuationBefore : Room := { frames := 3, cells := 1, slots := 6, locals := 65 }
set_option maxRecDepth 100000 in
set_option maxHeartbeats 4000000 in
theorem okX10_valuationBefore : pvOkM fX10 aX10_valuationBefore kX10 eX10 (some .int) bX10_valuationBefore uX10_valuationBefore 2 C_X10_valuationBefore := by
  intro Q SW hc as z h hS hz
  unfold C_X10_valuationBefore at h
  split at h
  · rename_i id i
    obtain ⟨rfl, hw, h2, h3⟩ := h
    have hw1 := hw.1
    refine ⟨Nat.le_of_ble_eq_true rfl, hc 20 _ _ _ fun _ _ => ?_⟩
    clear hc hS
    simp only [pvSt1]
    simp only [C_X10_isEvent, C_X10_reads, C_X10_told, C_X10_fails, pvE_aload_n0, pvLA_s, pvLd, pvE_iconst, pvE_putfield, pvPf_0, pvPf_1, fX10_73, pvSh_0, pvSh_1, pvSh_2, pvSh_3, pvSh_4, pvSh_5, pvSh_6, pvSh_7, pvSh_8, pvSh_9, pvSh_10, pvSh_11, pvSh_12, pvSh_13, pvSh_14, pvSh_15, pvSh_16, pvSh_17, pvSh_18, pvSh_19, pvSh_20, pvSh_21, pvSh_22, pvSh_23, pvSh_24, pvSh_25, pvSh_26, pvSh_27, pvSh_28, pvSh_29, pvSh_30, pvSh_31, pvSh_32, pvSh_33, pvSh_34, pvSh_35, pvSh_36, pvSh_37, pvSh_38, pvSh_39, pvSh_40, pvSh_41, pvSh_42, pvSh_43, pvSh_44, pvSh_45, pvSh_46, pvSh_47, pvSh_48, pvSh_49, pvSh_50, pvSh_51, pvSh_52, pvSh_53, pvSh_54, pvSh_55, pvSh_56, pvSh_57, pvSh_58, pvSh_59, pvE_iload_n1, pvLI_s, pvE_invokevirtual, pvC1_s, pvC2_s, pvAf_v, pvAf_x, pvPop, pvCs, pvCat, pvPush, aX10_valuationBefore_161, pvE_if_eq, aX10_valuationBefore_170, pvE_invokestatic (h0 := eX10_173), aX10_valuationBefore_173, pvE_goto, aX10_valuationBefore_87, pvE_ireturn, bX10_valuationBefore_0, uX10_valuationBefore_0, bX10_valuationBefore_24, uX10_valuationBefore_24, bX10_valuationBefore_29, uX10_valuationBefore_29, pvRecv_r, pvUp_nl, pvUp_same, pvUp_ap, pvSt_ap, pvX_c, pvX_ms, pvX_mn, pvE_nil, pvEn_i, pvEn_r, pvEn_l, pvEn_0, pvEn_s, pvRt, pvRv, pvTh, pvKc, pvGo, pvTgt, Int.toNat_natCast, false_and, and_false, true_and, and_true, if_true, if_false, reduceIte, reduceCtorEq, forall_const, false_or, or_false, true_or, or_true, ne_eq, not_true_eq_false, not_false_eq_true, implies_true, false_implies, Nat.reduceAdd, Nat.reduceSub, Nat.reduceMul, Nat.reduceEqDiff, Nat.reduceLT, Nat.reduceLeDiff, Int.reduceAdd, Int.reduceSub, Int.reduceMul, Int.reduceNeg, Int.reduceToNat, Int.reduceLE, Int.reduceLT, Int.reduceEq, Int.reduceNe, and_self]
    by_cases hi : 0 ≤ i ∧ i < z.1 39 7
    · have hv := vaF_r hw i.toNat (by omega)
      have hd := (hw.2 i.toNat (by omega)).1
      have hp := psF_r (v := vaF (z.1 43) (z.1 44) i.toNat) (d := z.1 43 i.toNat) (by omega)
      have h4 := h2 hi
      (repeat' (first | with_reducible apply And.intro | intro _))
      all_goals first
        | omega
        | assumption
    · have h4 := h3 hi
      (repeat' (first | with_reducible apply And.intro | intro _))
      all_goals first
        | omega
        | assumption
  · exact h.elim
def C_X10_after : pvC
  | [.inr (.inr (.inl id)), .inl s, .inl n], z, Q => id = 39 ∧ ((0 ≤ s ∧ s ≤ 1) ∧ WfA (autR (z.1 40) s) ∧ WdF (z.1 39 7) (z.1 43) (z.1 44) ∧ 0 ≤ n ∧ n ≤ z.1 39 7) ∧ Q (.inl (some (vI (afK (autR (z.1 40) s) (z.1 43) (z.1 44) n.toNat)))) z
  | _, _, _ => False
def bX10_after : Nat → List (Instr × Nat)
  | 0 => [(.aload_n 0, 1), (.getfield 7, 3), (.sipush 163, 3), (.iload_n 1, 1), (.imul, 1), (.iaload, 1), (.istore_n 3, 1), (.iconst 0, 1), (.istore 4, 2)]
  | 14 => [(.iload 4, 2), (.iload_n 2, 1), (.if_icmp .ge 29, 3), (.aload_n 0, 1), (.iload_n 1, 1), (.iload_n 3, 1), (.aload_n 0, 1), (.getfield 22, 3), (.iload 4, 2), (.iaload, 1), (.aload_n 0, 1), (.iload 4, 2), (.invokevirtual 170, 3), (.invokevirtual 180, 3), (.istore_n 3, 1), (.iinc 4 1, 3), (.goto (-29), 3)]
  | 46 => [(.iload_n 3, 1), (.ireturn, 1)]
  | _ => []
def uX10_after : Nat → Option (List Bool)
  | 14 => some [true, true, true, true, true]
  | _ => none
def aX10_after : pvCa
  | 170 => some (2, false, 9, 0, C_X10_reads)
  | 180 => some (5, false, 9, 0, C_X10_successor)
  | _ => none
theorem bX10_after_0 : bX10_after 0 = [(.aload_n 0, 1), (.getfield 7, 3), (.sipush 163, 3), (.iload_n 1, 1), (.imul, 1), (.iaload, 1), (.istore_n 3, 1), (.iconst 0, 1), (.istore 4, 2)] := rfl
theorem uX10_after_0 : uX10_after 0 = none := rfl
theorem bX10_after_14 : bX10_after 14 = [(.iload 4, 2), (.iload_n 2, 1), (.if_icmp .ge 29, 3), (.aload_n 0, 1), (.iload_n 1, 1), (.iload_n 3, 1), (.aload_n 0, 1), (.getfield 22, 3), (.iload 4, 2), (.iaload, 1), (.aload_n 0, 1), (.iload 4, 2), (.invokevirtual 170, 3), (.invokevirtual 180, 3), (.istore_n 3, 1), (.iinc 4 1, 3), (.goto (-29), 3)] := rfl
theorem uX10_after_14 : uX10_after 14 = some [true, true, true, true, true] := rfl
theorem bX10_after_46 : bX10_after 46 = [(.iload_n 3, 1), (.ireturn, 1)] := rfl
theorem uX10_after_46 : uX10_after 46 = none := rfl
theorem aX10_after_170 : aX10_after 170 = some (2, false, 9, 0, C_X10_reads) := rfl
theorem aX10_after_180 : aX10_after 180 = some (5, false, 9, 0, C_X10_successor) := rfl
def mX10_after : Room := { frames := 4, cells := 1, slots := 6, locals := 99 }
set_option maxRecDepth 100000 in
set_option maxHeartbeats 4000000 in
theorem okX10_after : pvOkM fX10 aX10_after kX10 eX10 (some .int) bX10_after uX10_after 5 C_X10_after := by
  intro Q SW hc as z h hS hz
  unfold C_X10_after at h
  split at h
  · rename_i id s n
    obtain ⟨rfl, ⟨hs, hw, hd, hn⟩, h2⟩ := h
    obtain ⟨n, rfl⟩ : ∃ k : Nat, n = k := ⟨n.toNat, by omega⟩
    have hd1 := hd.1
    have loop : ∀ (m k : Nat), k + m = n → SW 14 [some (vR 39), some (vI s), some (vI (n : Int)), some (vI (afK (autR (z.1 40) s) (z.1 43) (z.1 44) k)), some (vI (k : Int))] z := by
      intro m
      induction m using Nat.strongRecOn with
      | _ m ih =>
        intro k hk
        have ha := afK_r hw (z.1 43) (z.1 44) k
        refine hc 20 _ _ _ fun _ _ => ?_
        simp only [pvSt1]
        simp only [C_X10_reads, C_X10_successor, pvE_aload_n0, pvLA_s, pvLd, pvE_getfield, pvGf_0, pvGf_1, pvGf_2, fX10_7, pvSh_0, pvSh_1, pvSh_2, pvSh_3, pvSh_4, pvSh_5, pvSh_6, pvSh_7, pvSh_8, pvSh_9, pvSh_10, pvSh_11, pvSh_12, pvSh_13, pvSh_14, pvSh_15, pvSh_16, pvSh_17, pvSh_18, pvSh_19, pvSh_20, pvSh_21, pvSh_22, pvSh_23, pvSh_24, pvSh_25, pvSh_26, pvSh_27, pvSh_28, pvSh_29, pvSh_30, pvSh_31, pvSh_32, pvSh_33, pvSh_34, pvSh_35, pvSh_36, pvSh_37, pvSh_38, pvSh_39, pvSh_40, pvSh_41, pvSh_42, pvSh_43, pvSh_44, pvSh_45, pvSh_46, pvSh_47, pvSh_48, pvSh_49, pvSh_50, pvSh_51, pvSh_52, pvSh_53, pvSh_54, pvSh_55, pvSh_56, pvSh_57, pvSh_58, pvSh_59, pvRf_0_0, pvRf_0_1, pvRf_0_2, pvRf_0_3, pvRf_0_4, pvRf_0_5, pvRf_0_6, pvRf_0_7, pvRf_0_8, pvRf_0_9, pvRf_0_10, pvRf_1_0, pvRf_3_0, pvRf_5_0, pvRf_5_1, pvRf_5_2, pvRf_9_0, pvRf_9_1, pvRf_9_2, pvRf_13_0, pvRf_13_1, pvRf_13_2, pvRf_17_0, pvRf_17_2, pvRf_20_0, pvRf_20_1, pvRf_20_2, pvRf_24_0, pvRf_24_1, pvRf_24_2, pvRf_28_0, pvRf_28_1, pvRf_28_2, pvRf_28_3, pvRf_33_0, pvRf_33_1, pvRf_36_0, pvRf_36_1, pvRf_39_0, pvRf_39_1, pvRf_39_2, pvRf_39_5, pvRf_39_6, pvRf_39_9, pvRf_39_13, pvRf_39_15, pvRf_39_16, pvRf_39_17, pvRf_39_19, pvRf_39_20, pvRf_39_22, pvRf_39_23, pvRf_39_24, pvRf_39_25, pvRf_39_29, pvRf_39_30, pvE_sipush, pvE_iload_n1, pvLI_s, pvE_imul, pvE_iaload, pvAI, pvE_istore_n3, pvS1, List.length_cons, List.length_nil, pvClr_i, pvClr_r, pvClr_l, pvClr_d, pvClr_f, pvClr_n, pvE_iconst, pvE_istore, pvE_iload, pvE_iload_n2, pvE_icmp_ge, pvE_iload_n3, fX10_22, pvE_invokevirtual, pvC1_s, pvC2_s, pvAf_v, pvAf_x, pvPop, pvCs, pvCat, pvPush, aX10_after_170, aX10_after_180, pvE_iinc, pvIc_s, pvE_goto, pvE_ireturn, bX10_after_0, uX10_after_0, bX10_after_14, uX10_after_14, bX10_after_46, uX10_after_46, pvMk_t, pvMk_f, pvMk_n, pvRecv_r, pvUp_nl, pvUp_same, pvUp_ap, pvSt_ap, pvX_c, pvX_ms, pvX_mn, pvE_nil, pvEn_i, pvEn_r, pvEn_l, pvEn_0, pvEn_s, pvRt, pvRv, pvTh, pvKc, pvGo, pvTgt, Int.toNat_natCast, false_and, and_false, true_and, and_true, if_true, if_false, reduceIte, reduceCtorEq, forall_const, false_or, or_false, true_or, or_true, ne_eq, not_true_eq_false, not_false_eq_true, implies_true, false_implies, Nat.reduceAdd, Nat.reduceSub, Nat.reduceMul, Nat.reduceEqDiff, Nat.reduceLT, Nat.reduceLeDiff, Int.reduceAdd, Int.reduceSub, Int.reduceMul, Int.reduceNeg, Int.reduceToNat, Int.reduceLE, Int.reduceLT, Int.reduceEq, Int.reduceNe, and_self]
        by_cases hkn : n ≤ k
        · obtain rfl : k = n := by omega
          (repeat' (first | with_reducible apply And.intro | intro _))
          all_goals first
            | omega
            | exact h2
        · have hwk := hd.2 k (by omega)
          have hv := vaF_r hd k (by omega)
          have hp := psF_r (v := vaF (z.1 43) (z.1 44) k) (d := z.1 43 k) (by omega)
          have ihk : SW 14 [some (vR 39), some (vI s), some (vI (n : Int)), some (vI (afK (autR (z.1 40) s) (z.1 43) (z.1 44) (k + 1))), some (vI ((k : Int) + 1))] z := ih (m - 1) (by omega) (k + 1) (by omega)
          simp only [afK] at ihk
          (repeat' (first | with_reducible apply And.intro | intro _))
          all_goals first
            | omega
            | assumption
    have gi : z.1 40 (163 * s).toNat = (autR (z.1 40) s).2.1 := rS_i hs.1 rfl
    refine ⟨Nat.le_of_ble_eq_true rfl, hc 20 _ _ _ fun _ _ => ?_⟩
    simp only [pvSt1]
    simp only [gi, pvE_aload_n0, pvLA_s, pvLd, pvE_getfield, pvGf_0, pvGf_1, pvGf_2, fX10_7, pvSh_0, pvSh_1, pvSh_2, pvSh_3, pvSh_4, pvSh_5, pvSh_6, pvSh_7, pvSh_8, pvSh_9, pvSh_10, pvSh_11, pvSh_12, pvSh_13, pvSh_14, pvSh_15, pvSh_16, pvSh_17, pvSh_18, pvSh_19, pvSh_20, pvSh_21, pvSh_22, pvSh_23, pvSh_24, pvSh_25, pvSh_26, pvSh_27, pvSh_28, pvSh_29, pvSh_30, pvSh_31, pvSh_32, pvSh_33, pvSh_34, pvSh_35, pvSh_36, pvSh_37, pvSh_38, pvSh_39, pvSh_40, pvSh_41, pvSh_42, pvSh_43, pvSh_44, pvSh_45, pvSh_46, pvSh_47, pvSh_48, pvSh_49, pvSh_50, pvSh_51, pvSh_52, pvSh_53, pvSh_54, pvSh_55, pvSh_56, pvSh_57, pvSh_58, pvSh_59, pvRf_0_0, pvRf_0_1, pvRf_0_2, pvRf_0_3, pvRf_0_4, pvRf_0_5, pvRf_0_6, pvRf_0_7, pvRf_0_8, pvRf_0_9, pvRf_0_10, pvRf_1_0, pvRf_3_0, pvRf_5_0, pvRf_5_1, pvRf_5_2, pvRf_9_0, pvRf_9_1, pvRf_9_2, pvRf_13_0, pvRf_13_1, pvRf_13_2, pvRf_17_0, pvRf_17_2, pvRf_20_0, pvRf_20_1, pvRf_20_2, pvRf_24_0, pvRf_24_1, pvRf_24_2, pvRf_28_0, pvRf_28_1, pvRf_28_2, pvRf_28_3, pvRf_33_0, pvRf_33_1, pvRf_36_0, pvRf_36_1, pvRf_39_0, pvRf_39_1, pvRf_39_2, pvRf_39_5, pvRf_39_6, pvRf_39_9, pvRf_39_13, pvRf_39_15, pvRf_39_16, pvRf_39_17, pvRf_39_19, pvRf_39_20, pvRf_39_22, pvRf_39_23, pvRf_39_24, pvRf_39_25, pvRf_39_29, pvRf_39_30, pvE_sipush, pvE_iload_n1, pvLI_s, pvE_imul, pvE_iaload, pvAI, pvE_istore_n3, pvS1, List.length_cons, List.length_nil, pvClr_i, pvClr_r, pvClr_l, pvClr_d, pvClr_f, pvClr_n, pvE_iconst, pvE_istore, pvE_iload, pvE_iload_n2, pvE_icmp_ge, pvE_iload_n3, fX10_22, pvE_invokevirtual, pvC1_s, pvC2_s, pvAf_v, pvAf_x, pvPop, pvCs, pvCat, pvPush, aX10_after_170, aX10_after_180, pvE_iinc, pvIc_s, pvE_goto, pvE_ireturn, bX10_after_0, uX10_after_0, bX10_after_14, uX10_after_14, bX10_after_46, uX10_after_46, pvMk_t, pvMk_f, pvMk_n, pvRecv_r, pvUp_nl, pvUp_same, pvUp_ap, pvSt_ap, pvX_c, pvX_ms, pvX_mn, pvE_nil, pvEn_i, pvEn_r, pvEn_l, pvEn_0, pvEn_s, pvRt, pvRv, pvTh, pvKc, pvGo, pvTgt, Int.toNat_natCast, false_and, and_false, true_and, and_true, if_true, if_false, reduceIte, reduceCtorEq, forall_const, false_or, or_false, true_or, or_true, ne_eq, not_true_eq_false, not_false_eq_true, implies_true, false_implies, Nat.reduceAdd, Nat.reduceSub, Nat.reduceMul, Nat.reduceEqDiff, Nat.reduceLT, Nat.reduceLeDiff, Int.reduceAdd, Int.reduceSub, Int.reduceMul, Int.reduceNeg, Int.reduceToNat, Int.reduceLE, Int.reduceLT, Int.reduceEq, Int.reduceNe, and_self]
    (repeat' (first | with_reducible apply And.intro | intro _))
    all_goals first
      | omega
      | exact loop n 0 (by omega)
  · exact h.elim
def C_X10_statesAfter : pvC
  | [.inr (.inr (.inl id)), .inl s, .inl n], z, Q => id = 39 ∧ ((0 ≤ s ∧ s ≤ 1 → WfA (autR (z.1 40) s)) ∧ WdF (z.1 39 7) (z.1 43) (z.1 44)) ∧
      ((0 ≤ s ∧ s ≤ 1) ∧ 0 ≤ n ∧ n ≤ z.1 39 7 → Q (.inl (some (vI (afK (autR (z.1 40) s) (z.1 43) (z.1 44) n.toNat)))) (pvUp z.1 39 8 0, z.2)) ∧
      (¬ ((0 ≤ s ∧ s ≤ 1) ∧ 0 ≤ n ∧ n ≤ z.1 39 7) → Q (.inl (some (vI 0))) (pvUp z.1 39 8 1, z.2))
  | _, _, _ => False
def bX10_statesAfter : Nat → List (Instr × Nat)
  | 0 => [(.aload_n 0, 1), (.iconst 0, 1), (.putfield 73, 3), (.iload_n 1, 1), (.invokestatic 80, 3), (.ifCond .eq 24, 3), (.iload_n 2, 1), (.iconst 0, 1), (.aload_n 0, 1), (.getfield 158, 3), (.invokestatic 76, 3), (.ifCond .eq 12, 3), (.aload_n 0, 1), (.iload_n 1, 1), (.iload_n 2, 1), (.invokevirtual 184, 3), (.goto 8, 3)]
  | 33 => [(.aload_n 0, 1), (.iconst 1, 1), (.invokevirtual 87, 3)]
  | 38 => [(.ireturn, 1)]
  | _ => []
def uX10_statesAfter : Nat → Option (List Bool)
  | _ => none
def aX10_statesAfter : pvCa
  | 76 => some (3, true, 0, 0, C_X10_in)
  | 80 => some (1, true, 0, 0, C_X10_isSlot)
  | 87 => some (2, false, 9, 0, C_X10_fails)
  | 184 => some (3, false, 9, 0, C_X10_after)
  | _ => none
theorem bX10_statesAfter_0 : bX10_statesAfter 0 = [(.aload_n 0, 1), (.iconst 0, 1), (.putfield 73, 3), (.iload_n 1, 1), (.invokestatic 80, 3), (.ifCond .eq 24, 3), (.iload_n 2, 1), (.iconst 0, 1), (.aload_n 0, 1), (.getfield 158, 3), (.invokestatic 76, 3), (.ifCond .eq 12, 3), (.aload_n 0, 1), (.iload_n 1, 1), (.iload_n 2, 1), (.invokevirtual 184, 3), (.goto 8, 3)] := rfl
theorem uX10_statesAfter_0 : uX10_statesAfter 0 = none := rfl
theorem bX10_statesAfter_33 : bX10_statesAfter 33 = [(.aload_n 0, 1), (.iconst 1, 1), (.invokevirtual 87, 3)] := rfl
theorem uX10_statesAfter_33 : uX10_statesAfter 33 = none := rfl
theorem bX10_statesAfter_38 : bX10_statesAfter 38 = [(.ireturn, 1)] := rfl
theorem uX10_statesAfter_38 : uX10_statesAfter 38 = none := rfl
theorem aX10_statesAfter_76 : aX10_statesAfter 76 = some (3, true, 0, 0, C_X10_in) := rfl
theorem aX10_statesAfter_80 : aX10_statesAfter 80 = some (1, true, 0, 0, C_X10_isSlot) := rfl
theorem aX10_statesAfter_87 : aX10_statesAfter 87 = some (2, false, 9, 0, C_X10_fails) := rfl
theorem aX10_statesAfter_184 : aX10_statesAfter 184 = some (3, false, 9, 0, C_X10_after) := rfl
def mX10_statesAfter : Room := { frames := 5, cells := 1, slots := 6, locals := 123 }
set_option maxRecDepth 100000 in
set_option maxHeartbeats 4000000 in
theorem okX10_statesAfter : pvOkM fX10 aX10_statesAfter kX10 eX10 (some .int) bX10_statesAfter uX10_statesAfter 3 C_X10_statesAfter := by
  intro Q SW hc as z h hS hz
  unfold C_X10_statesAfter at h
  split at h
  · rename_i id s n
    obtain ⟨hid, h⟩ := h
    refine ⟨Nat.le_of_ble_eq_true rfl, hc 20 _ _ _ fun _ _ => ?_⟩
    clear hc hS
    subst hid
    (simp only [pvSt1]
     simp only [C_X10_isSlot, C_X10_in, C_X10_fails, C_X10_after, pvE_aload_n0, pvLA_s, pvLd, pvE_iconst, pvE_putfield, pvPf_0, pvPf_1, fX10_73, pvSh_0, pvSh_1, pvSh_2, pvSh_3, pvSh_4, pvSh_5, pvSh_6, pvSh_7, pvSh_8, pvSh_9, pvSh_10, pvSh_11, pvSh_12, pvSh_13, pvSh_14, pvSh_15, pvSh_16, pvSh_17, pvSh_18, pvSh_19, pvSh_20, pvSh_21, pvSh_22, pvSh_23, pvSh_24, pvSh_25, pvSh_26, pvSh_27, pvSh_28, pvSh_29, pvSh_30, pvSh_31, pvSh_32, pvSh_33, pvSh_34, pvSh_35, pvSh_36, pvSh_37, pvSh_38, pvSh_39, pvSh_40, pvSh_41, pvSh_42, pvSh_43, pvSh_44, pvSh_45, pvSh_46, pvSh_47, pvSh_48, pvSh_49, pvSh_50, pvSh_51, pvSh_52, pvSh_53, pvSh_54, pvSh_55, pvSh_56, pvSh_57, pvSh_58, pvSh_59, pvE_iload_n1, pvLI_s, pvE_invokestatic (h0 := eX10_80), pvC1_s, pvC2_s, pvAf_v, pvAf_x, pvPop, pvCs, pvCat, pvPush, aX10_statesAfter_80, pvE_if_eq, pvE_iload_n2, pvE_getfield, pvGf_0, pvGf_1, pvGf_2, fX10_158, pvRf_0_0, pvRf_0_1, pvRf_0_2, pvRf_0_3, pvRf_0_4, pvRf_0_5, pvRf_0_6, pvRf_0_7, pvRf_0_8, pvRf_0_9, pvRf_0_10, pvRf_1_0, pvRf_3_0, pvRf_5_0, pvRf_5_1, pvRf_5_2, pvRf_9_0, pvRf_9_1, pvRf_9_2, pvRf_13_0, pvRf_13_1, pvRf_13_2, pvRf_17_0, pvRf_17_2, pvRf_20_0, pvRf_20_1, pvRf_20_2, pvRf_24_0, pvRf_24_1, pvRf_24_2, pvRf_28_0, pvRf_28_1, pvRf_28_2, pvRf_28_3, pvRf_33_0, pvRf_33_1, pvRf_36_0, pvRf_36_1, pvRf_39_0, pvRf_39_1, pvRf_39_2, pvRf_39_5, pvRf_39_6, pvRf_39_9, pvRf_39_13, pvRf_39_15, pvRf_39_16, pvRf_39_17, pvRf_39_19, pvRf_39_20, pvRf_39_22, pvRf_39_23, pvRf_39_24, pvRf_39_25, pvRf_39_29, pvRf_39_30, pvE_invokestatic (h0 := eX10_76), aX10_statesAfter_76, pvE_invokevirtual, aX10_statesAfter_184, pvE_goto, aX10_statesAfter_87, pvE_ireturn, bX10_statesAfter_0, uX10_statesAfter_0, bX10_statesAfter_33, uX10_statesAfter_33, bX10_statesAfter_38, uX10_statesAfter_38, pvRecv_r, pvUp_nl, pvUp_same, pvUp_ap, pvSt_ap, pvX_c, pvX_ms, pvX_mn, pvE_nil, pvEn_i, pvEn_r, pvEn_l, pvEn_0, pvEn_s, pvRt, pvRv, pvTh, pvKc, pvGo, pvTgt, Int.toNat_natCast, false_and, and_false, true_and, and_true, if_true, if_false, reduceIte, reduceCtorEq, forall_const, false_or, or_false, true_or, or_true, ne_eq, not_true_eq_false, not_false_eq_true, implies_true, false_implies, Nat.reduceAdd, Nat.reduceSub, Nat.reduceMul, Nat.reduceEqDiff, Nat.reduceLT, Nat.reduceLeDiff, Int.reduceAdd, Int.reduceSub, Int.reduceMul, Int.reduceNeg, Int.reduceToNat, Int.reduceLE, Int.reduceLT, Int.reduceEq, Int.reduceNe, and_self]
     grind)
  · exact h.elim
