/-! small methods of the reference -/
def C_X10_thrown : pvC
  | [.inr (.inr (.inl id))], z, Q => id = 39 ∧ Q (.inl (some (vI (z.1 39 8)))) z
  | _, _, _ => False
def bX10_thrown : Nat → List (Instr × Nat)
  | 0 => [(.aload_n 0, 1), (.getfield 73, 3), (.ireturn, 1)]
  | _ => []
def uX10_thrown : Nat → Option (List Bool)
  | _ => none
def aX10_thrown : pvCa
  | _ => none
theorem bX10_thrown_0 : bX10_thrown 0 = [(.aload_n 0, 1), (.getfield 73, 3), (.ireturn, 1)] := rfl
theorem uX10_thrown_0 : uX10_thrown 0 = none := rfl
def mX10_thrown : Room := { frames := 0, cells := 1, slots := 6, locals := 0 }
set_option maxRecDepth 100000 in
set_option maxHeartbeats 4000000 in
theorem okX10_thrown : pvOkM fX10 aX10_thrown kX10 eX10 (some .int) bX10_thrown uX10_thrown 1 C_X10_thrown := by
  intro Q SW hc as z h hS hz
  unfold C_X10_thrown at h
  split at h
  · rename_i id
    obtain ⟨hid, h⟩ := h
    refine ⟨Nat.le_of_ble_eq_true rfl, hc 20 _ _ _ fun _ _ => ?_⟩
    clear hc hS
    subst hid
    (simp only [pvSt1]
     simp only [pvE_aload_n0, pvLA_s, pvLd, pvE_getfield, pvGf_0, pvGf_1, pvGf_2, fX10_73, pvSh_0, pvSh_1, pvSh_2, pvSh_3, pvSh_4, pvSh_5, pvSh_6, pvSh_7, pvSh_8, pvSh_9, pvSh_10, pvSh_11, pvSh_12, pvSh_13, pvSh_14, pvSh_15, pvSh_16, pvSh_17, pvSh_18, pvSh_19, pvSh_20, pvSh_21, pvSh_22, pvSh_23, pvSh_24, pvSh_25, pvSh_26, pvSh_27, pvSh_28, pvSh_29, pvSh_30, pvSh_31, pvSh_32, pvSh_33, pvSh_34, pvSh_35, pvSh_36, pvSh_37, pvSh_38, pvSh_39, pvSh_40, pvSh_41, pvSh_42, pvSh_43, pvSh_44, pvSh_45, pvSh_46, pvSh_47, pvSh_48, pvSh_49, pvSh_50, pvSh_51, pvSh_52, pvSh_53, pvSh_54, pvSh_55, pvSh_56, pvSh_57, pvSh_58, pvSh_59, pvRf_0_0, pvRf_0_1, pvRf_0_2, pvRf_0_3, pvRf_0_4, pvRf_0_5, pvRf_0_6, pvRf_0_7, pvRf_0_8, pvRf_0_9, pvRf_0_10, pvRf_1_0, pvRf_3_0, pvRf_5_0, pvRf_5_1, pvRf_5_2, pvRf_9_0, pvRf_9_1, pvRf_9_2, pvRf_13_0, pvRf_13_1, pvRf_13_2, pvRf_17_0, pvRf_17_2, pvRf_20_0, pvRf_20_1, pvRf_20_2, pvRf_24_0, pvRf_24_1, pvRf_24_2, pvRf_28_0, pvRf_28_1, pvRf_28_2, pvRf_28_3, pvRf_33_0, pvRf_33_1, pvRf_36_0, pvRf_36_1, pvRf_39_0, pvRf_39_1, pvRf_39_2, pvRf_39_5, pvRf_39_6, pvRf_39_9, pvRf_39_13, pvRf_39_15, pvRf_39_16, pvRf_39_17, pvRf_39_19, pvRf_39_20, pvRf_39_22, pvRf_39_23, pvRf_39_24, pvRf_39_25, pvRf_39_29, pvRf_39_30, pvE_ireturn, bX10_thrown_0, uX10_thrown_0, pvRecv_r, pvUp_nl, pvUp_same, pvUp_ap, pvSt_ap, pvX_c, pvX_ms, pvX_mn, pvE_nil, pvEn_i, pvEn_r, pvEn_l, pvEn_0, pvEn_s, pvRt, pvRv, pvTh, pvKc, pvGo, pvTgt, Int.toNat_natCast, false_and, and_false, true_and, and_true, if_true, if_false, reduceIte, reduceCtorEq, forall_const, false_or, or_false, true_or, or_true, ne_eq, not_true_eq_false, not_false_eq_true, implies_true, false_implies, Nat.reduceAdd, Nat.reduceSub, Nat.reduceMul, Nat.reduceEqDiff, Nat.reduceLT, Nat.reduceLeDiff, Int.reduceAdd, Int.reduceSub, Int.reduceMul, Int.reduceNeg, Int.reduceToNat, Int.reduceLE, Int.reduceLT, Int.reduceEq, Int.reduceNe, and_self]
     grind)
  · exact h.elim
def C_X10_fails : pvC
  | [.inr (.inr (.inl id)), .inl c], z, Q => id = 39 ∧ Q (.inl (some (vI 0))) (pvUp z.1 39 8 c, z.2)
  | _, _, _ => False
def bX10_fails : Nat → List (Instr × Nat)
  | 0 => [(.aload_n 0, 1), (.iload_n 1, 1), (.putfield 73, 3), (.iconst 0, 1), (.ireturn, 1)]
  | _ => []
def uX10_fails : Nat → Option (List Bool)
  | _ => none
def aX10_fails : pvCa
  | _ => none
theorem bX10_fails_0 : bX10_fails 0 = [(.aload_n 0, 1), (.iload_n 1, 1), (.putfield 73, 3), (.iconst 0, 1), (.ireturn, 1)] := rfl
theorem uX10_fails_0 : uX10_fails 0 = none := rfl
def mX10_fails : Room := { frames := 0, cells := 1, slots := 6, locals := 0 }
set_option maxRecDepth 100000 in
set_option maxHeartbeats 4000000 in
theorem okX10_fails : pvOkM fX10 aX10_fails kX10 eX10 (some .int) bX10_fails uX10_fails 2 C_X10_fails := by
  intro Q SW hc as z h hS hz
  unfold C_X10_fails at h
  split at h
  · rename_i id c
    obtain ⟨hid, h⟩ := h
    refine ⟨Nat.le_of_ble_eq_true rfl, hc 20 _ _ _ fun _ _ => ?_⟩
    clear hc hS
    subst hid
    (simp only [pvSt1]
     simp only [pvE_aload_n0, pvLA_s, pvLd, pvE_iload_n1, pvLI_s, pvE_putfield, pvPf_0, pvPf_1, fX10_73, pvSh_0, pvSh_1, pvSh_2, pvSh_3, pvSh_4, pvSh_5, pvSh_6, pvSh_7, pvSh_8, pvSh_9, pvSh_10, pvSh_11, pvSh_12, pvSh_13, pvSh_14, pvSh_15, pvSh_16, pvSh_17, pvSh_18, pvSh_19, pvSh_20, pvSh_21, pvSh_22, pvSh_23, pvSh_24, pvSh_25, pvSh_26, pvSh_27, pvSh_28, pvSh_29, pvSh_30, pvSh_31, pvSh_32, pvSh_33, pvSh_34, pvSh_35, pvSh_36, pvSh_37, pvSh_38, pvSh_39, pvSh_40, pvSh_41, pvSh_42, pvSh_43, pvSh_44, pvSh_45, pvSh_46, pvSh_47, pvSh_48, pvSh_49, pvSh_50, pvSh_51, pvSh_52, pvSh_53, pvSh_54, pvSh_55, pvSh_56, pvSh_57, pvSh_58, pvSh_59, pvE_iconst, pvE_ireturn, bX10_fails_0, uX10_fails_0, pvRecv_r, pvUp_nl, pvUp_same, pvUp_ap, pvSt_ap, pvX_c, pvX_ms, pvX_mn, pvE_nil, pvEn_i, pvEn_r, pvEn_l, pvEn_0, pvEn_s, pvRt, pvRv, pvTh, pvKc, pvGo, pvTgt, Int.toNat_natCast, false_and, and_false, true_and, and_true, if_true, if_false, reduceIte, reduceCtorEq, forall_const, false_or, or_false, true_or, or_true, ne_eq, not_true_eq_false, not_false_eq_true, implies_true, false_implies, Nat.reduceAdd, Nat.reduceSub, Nat.reduceMul, Nat.reduceEqDiff, Nat.reduceLT, Nat.reduceLeDiff, Int.reduceAdd, Int.reduceSub, Int.reduceMul, Int.reduceNeg, Int.reduceToNat, Int.reduceLE, Int.reduceLT, Int.reduceEq, Int.reduceNe, and_self]
     grind)
  · exact h.elim
def C_X10_in : pvC
  | [.inl i, .inl a, .inl b], z, Q => (a ≤ i ∧ i ≤ b → Q (.inl (some (vI 1))) z) ∧ (¬ (a ≤ i ∧ i ≤ b) → Q (.inl (some (vI 0))) z)
  | _, _, _ => False
def bX10_in : Nat → List (Instr × Nat)
  | 0 => [(.iload_n 0, 1), (.iload_n 1, 1), (.if_icmp .lt 12, 3), (.iload_n 0, 1), (.iload_n 2, 1), (.if_icmp .gt 7, 3), (.iconst 1, 1), (.goto 4, 3)]
  | 14 => [(.iconst 0, 1)]
  | 15 => [(.ireturn, 1)]
  | _ => []
def uX10_in : Nat → Option (List Bool)
  | _ => none
def aX10_in : pvCa
  | _ => none
theorem bX10_in_0 : bX10_in 0 = [(.iload_n 0, 1), (.iload_n 1, 1), (.if_icmp .lt 12, 3), (.iload_n 0, 1), (.iload_n 2, 1), (.if_icmp .gt 7, 3), (.iconst 1, 1), (.goto 4, 3)] := rfl
theorem uX10_in_0 : uX10_in 0 = none := rfl
theorem bX10_in_14 : bX10_in 14 = [(.iconst 0, 1)] := rfl
theorem uX10_in_14 : uX10_in 14 = none := rfl
theorem bX10_in_15 : bX10_in 15 = [(.ireturn, 1)] := rfl
theorem uX10_in_15 : uX10_in 15 = none := rfl
def mX10_in : Room := { frames := 0, cells := 1, slots := 6, locals := 0 }
set_option maxRecDepth 100000 in
set_option maxHeartbeats 4000000 in
theorem okX10_in : pvOkM fX10 aX10_in kX10 eX10 (some .boolean) bX10_in uX10_in 3 C_X10_in := by
  intro Q SW hc as z h hS hz
  unfold C_X10_in at h
  split at h
  · rename_i i a b
    refine ⟨Nat.le_of_ble_eq_true rfl, hc 20 _ _ _ fun _ _ => ?_⟩
    clear hc hS
    simp only [pvSt1]
    simp only [pvE_iload_n0, pvLI_s, pvLd, pvE_iload_n1, pvE_icmp_lt, pvE_iload_n2, pvE_icmp_gt, pvE_iconst, pvE_goto, pvE_ireturn, bX10_in_0, uX10_in_0, bX10_in_14, uX10_in_14, bX10_in_15, uX10_in_15, pvRecv_r, pvUp_nl, pvUp_same, pvUp_ap, pvSt_ap, pvX_c, pvX_ms, pvX_mn, pvE_nil, pvEn_i, pvEn_r, pvEn_l, pvEn_0, pvEn_s, pvRt, pvRv, pvTh, pvKc, pvGo, pvTgt, Int.toNat_natCast, false_and, and_false, true_and, and_true, if_true, if_false, reduceIte, reduceCtorEq, forall_const, false_or, or_false, true_or, or_true, ne_eq, not_true_eq_false, not_false_eq_true, implies_true, false_implies, Nat.reduceAdd, Nat.reduceSub, Nat.reduceMul, Nat.reduceEqDiff, Nat.reduceLT, Nat.reduceLeDiff, Int.reduceAdd, Int.reduceSub, Int.reduceMul, Int.reduceNeg, Int.reduceToNat, Int.reduceLE, Int.reduceLT, Int.reduceEq, Int.reduceNe, and_self]
    grind
  · exact h.elim
def C_X10_isSlot : pvC
  | [.inl i], z, Q => (0 ≤ i ∧ i ≤ 1 → Q (.inl (some (vI 1))) z) ∧ (¬ (0 ≤ i ∧ i ≤ 1) → Q (.inl (some (vI 0))) z)
  | _, _, _ => False
def bX10_isSlot : Nat → List (Instr × Nat)
  | 0 => [(.iload_n 0, 1), (.iconst 0, 1), (.iconst 1, 1), (.invokestatic 76, 3), (.ireturn, 1)]
  | _ => []
def uX10_isSlot : Nat → Option (List Bool)
  | _ => none
def aX10_isSlot : pvCa
  | 76 => some (3, true, 0, 0, C_X10_in)
  | _ => none
theorem bX10_isSlot_0 : bX10_isSlot 0 = [(.iload_n 0, 1), (.iconst 0, 1), (.iconst 1, 1), (.invokestatic 76, 3), (.ireturn, 1)] := rfl
theorem uX10_isSlot_0 : uX10_isSlot 0 = none := rfl
theorem aX10_isSlot_76 : aX10_isSlot 76 = some (3, true, 0, 0, C_X10_in) := rfl
def mX10_isSlot : Room := { frames := 1, cells := 1, slots := 6, locals := 22 }
set_option maxRecDepth 100000 in
set_option maxHeartbeats 4000000 in
theorem okX10_isSlot : pvOkM fX10 aX10_isSlot kX10 eX10 (some .boolean) bX10_isSlot uX10_isSlot 1 C_X10_isSlot := by
  intro Q SW hc as z h hS hz
  unfold C_X10_isSlot at h
  split at h
  · rename_i i
    refine ⟨Nat.le_of_ble_eq_true rfl, hc 20 _ _ _ fun _ _ => ?_⟩
    clear hc hS
    simp only [pvSt1]
    simp only [C_X10_in, pvE_iload_n0, pvLI_s, pvLd, pvE_iconst, pvE_invokestatic (h0 := eX10_76), pvC1_s, pvC2_s, pvAf_v, pvAf_x, pvPop, pvCs, pvCat, pvPush, aX10_isSlot_76, pvE_ireturn, bX10_isSlot_0, uX10_isSlot_0, pvRecv_r, pvUp_nl, pvUp_same, pvUp_ap, pvSt_ap, pvX_c, pvX_ms, pvX_mn, pvE_nil, pvEn_i, pvEn_r, pvEn_l, pvEn_0, pvEn_s, pvRt, pvRv, pvTh, pvKc, pvGo, pvTgt, Int.toNat_natCast, false_and, and_false, true_and, and_true, if_true, if_false, reduceIte, reduceCtorEq, forall_const, false_or, or_false, true_or, or_true, ne_eq, not_true_eq_false, not_false_eq_true, implies_true, false_implies, Nat.reduceAdd, Nat.reduceSub, Nat.reduceMul, Nat.reduceEqDiff, Nat.reduceLT, Nat.reduceLeDiff, Int.reduceAdd, Int.reduceSub, Int.reduceMul, Int.reduceNeg, Int.reduceToNat, Int.reduceLE, Int.reduceLT, Int.reduceEq, Int.reduceNe, and_self]
    grind
  · exact h.elim
def C_X10_isState : pvC
  | [.inl i], z, Q => (0 ≤ i ∧ i ≤ 3 → Q (.inl (some (vI 1))) z) ∧ (¬ (0 ≤ i ∧ i ≤ 3) → Q (.inl (some (vI 0))) z)
  | _, _, _ => False
def bX10_isState : Nat → List (Instr × Nat)
  | 0 => [(.iload_n 0, 1), (.iconst 0, 1), (.iconst 3, 1), (.invokestatic 76, 3), (.ireturn, 1)]
  | _ => []
def uX10_isState : Nat → Option (List Bool)
  | _ => none
def aX10_isState : pvCa
  | 76 => some (3, true, 0, 0, C_X10_in)
  | _ => none
theorem bX10_isState_0 : bX10_isState 0 = [(.iload_n 0, 1), (.iconst 0, 1), (.iconst 3, 1), (.invokestatic 76, 3), (.ireturn, 1)] := rfl
theorem uX10_isState_0 : uX10_isState 0 = none := rfl
theorem aX10_isState_76 : aX10_isState 76 = some (3, true, 0, 0, C_X10_in) := rfl
def mX10_isState : Room := { frames := 1, cells := 1, slots := 6, locals := 22 }
set_option maxRecDepth 100000 in
set_option maxHeartbeats 4000000 in
theorem okX10_isState : pvOkM fX10 aX10_isState kX10 eX10 (some .boolean) bX10_isState uX10_isState 1 C_X10_isState := by
  intro Q SW hc as z h hS hz
  unfold C_X10_isState at h
  split at h
  · rename_i i
    refine ⟨Nat.le_of_ble_eq_true rfl, hc 20 _ _ _ fun _ _ => ?_⟩
    clear hc hS
    simp only [pvSt1]
    simp only [C_X10_in, pvE_iload_n0, pvLI_s, pvLd, pvE_iconst, pvE_invokestatic (h0 := eX10_76), pvC1_s, pvC2_s, pvAf_v, pvAf_x, pvPop, pvCs, pvCat, pvPush, aX10_isState_76, pvE_ireturn, bX10_isState_0, uX10_isState_0, pvRecv_r, pvUp_nl, pvUp_same, pvUp_ap, pvSt_ap, pvX_c, pvX_ms, pvX_mn, pvE_nil, pvEn_i, pvEn_r, pvEn_l, pvEn_0, pvEn_s, pvRt, pvRv, pvTh, pvKc, pvGo, pvTgt, Int.toNat_natCast, false_and, and_false, true_and, and_true, if_true, if_false, reduceIte, reduceCtorEq, forall_const, false_or, or_false, true_or, or_true, ne_eq, not_true_eq_false, not_false_eq_true, implies_true, false_implies, Nat.reduceAdd, Nat.reduceSub, Nat.reduceMul, Nat.reduceEqDiff, Nat.reduceLT, Nat.reduceLeDiff, Int.reduceAdd, Int.reduceSub, Int.reduceMul, Int.reduceNeg, Int.reduceToNat, Int.reduceLE, Int.reduceLT, Int.reduceEq, Int.reduceNe, and_self]
    grind
  · exact h.elim
def C_X10_isLetter : pvC
  | [.inl i], z, Q => (0 ≤ i ∧ i ≤ 2 → Q (.inl (some (vI 1))) z) ∧ (¬ (0 ≤ i ∧ i ≤ 2) → Q (.inl (some (vI 0))) z)
  | _, _, _ => False
def bX10_isLetter : Nat → List (Instr × Nat)
  | 0 => [(.iload_n 0, 1), (.iconst 0, 1), (.iconst 2, 1), (.invokestatic 76, 3), (.ireturn, 1)]
  | _ => []
def uX10_isLetter : Nat → Option (List Bool)
  | _ => none
def aX10_isLetter : pvCa
  | 76 => some (3, true, 0, 0, C_X10_in)
  | _ => none
theorem bX10_isLetter_0 : bX10_isLetter 0 = [(.iload_n 0, 1), (.iconst 0, 1), (.iconst 2, 1), (.invokestatic 76, 3), (.ireturn, 1)] := rfl
theorem uX10_isLetter_0 : uX10_isLetter 0 = none := rfl
theorem aX10_isLetter_76 : aX10_isLetter 76 = some (3, true, 0, 0, C_X10_in) := rfl
def mX10_isLetter : Room := { frames := 1, cells := 1, slots := 6, locals := 22 }
set_option maxRecDepth 100000 in
set_option maxHeartbeats 4000000 in
theorem okX10_isLetter : pvOkM fX10 aX10_isLetter kX10 eX10 (some .boolean) bX10_isLetter uX10_isLetter 1 C_X10_isLetter := by
  intro Q SW hc as z h hS hz
  unfold C_X10_isLetter at h
  split at h
  · rename_i i
    refine ⟨Nat.le_of_ble_eq_true rfl, hc 20 _ _ _ fun _ _ => ?_⟩
    clear hc hS
    simp only [pvSt1]
    simp only [C_X10_in, pvE_iload_n0, pvLI_s, pvLd, pvE_iconst, pvE_invokestatic (h0 := eX10_76), pvC1_s, pvC2_s, pvAf_v, pvAf_x, pvPop, pvCs, pvCat, pvPush, aX10_isLetter_76, pvE_ireturn, bX10_isLetter_0, uX10_isLetter_0, pvRecv_r, pvUp_nl, pvUp_same, pvUp_ap, pvSt_ap, pvX_c, pvX_ms, pvX_mn, pvE_nil, pvEn_i, pvEn_r, pvEn_l, pvEn_0, pvEn_s, pvRt, pvRv, pvTh, pvKc, pvGo, pvTgt, Int.toNat_natCast, false_and, and_false, true_and, and_true, if_true, if_false, reduceIte, reduceCtorEq, forall_const, false_or, or_false, true_or, or_true, ne_eq, not_true_eq_false, not_false_eq_true, implies_true, false_implies, Nat.reduceAdd, Nat.reduceSub, Nat.reduceMul, Nat.reduceEqDiff, Nat.reduceLT, Nat.reduceLeDiff, Int.reduceAdd, Int.reduceSub, Int.reduceMul, Int.reduceNeg, Int.reduceToNat, Int.reduceLE, Int.reduceLT, Int.reduceEq, Int.reduceNe, and_self]
    grind
  · exact h.elim
/-- the reference's count of transitions of an automaton -/
def rcF (z : pvM) (s : Int) : Int := z.1 40 (163 * s + 2).toNat
def C_X10_isTransition : pvC
  | [.inr (.inr (.inl id)), .inl s, .inl t], z, Q => id = 39 ∧ (0 ≤ s ∧ s ≤ 1 → 0 ≤ rcF z s ∧ rcF z s ≤ 10) ∧ ((0 ≤ s ∧ s ≤ 1) ∧ 0 ≤ t ∧ t < rcF z s → Q (.inl (some (vI 1))) z) ∧ (¬ ((0 ≤ s ∧ s ≤ 1) ∧ 0 ≤ t ∧ t < rcF z s) → Q (.inl (some (vI 0))) z)
  | _, _, _ => False
def bX10_isTransition : Nat → List (Instr × Nat)
  | 0 => [(.iload_n 1, 1), (.invokestatic 80, 3), (.ifCond .eq 29, 3), (.iload_n 2, 1), (.iconst 0, 1), (.aload_n 0, 1), (.getfield 7, 3), (.sipush 163, 3), (.iload_n 1, 1), (.imul, 1), (.iconst 2, 1), (.iadd, 1), (.iaload, 1), (.iconst 1, 1), (.isub, 1), (.invokestatic 76, 3), (.ifCond .eq 7, 3), (.iconst 1, 1), (.goto 4, 3)]
  | 33 => [(.iconst 0, 1)]
  | 34 => [(.ireturn, 1)]
  | _ => []
def uX10_isTransition : Nat → Option (List Bool)
  | _ => none
def aX10_isTransition : pvCa
  | 76 => some (3, true, 0, 0, C_X10_in)
  | 80 => some (1, true, 0, 0, C_X10_isSlot)
  | _ => none
theorem bX10_isTransition_0 : bX10_isTransition 0 = [(.iload_n 1, 1), (.invokestatic 80, 3), (.ifCond .eq 29, 3), (.iload_n 2, 1), (.iconst 0, 1), (.aload_n 0, 1), (.getfield 7, 3), (.sipush 163, 3), (.iload_n 1, 1), (.imul, 1), (.iconst 2, 1), (.iadd, 1), (.iaload, 1), (.iconst 1, 1), (.isub, 1), (.invokestatic 76, 3), (.ifCond .eq 7, 3), (.iconst 1, 1), (.goto 4, 3)] := rfl
theorem uX10_isTransition_0 : uX10_isTransition 0 = none := rfl
theorem bX10_isTransition_33 : bX10_isTransition 33 = [(.iconst 0, 1)] := rfl
theorem uX10_isTransition_33 : uX10_isTransition 33 = none := rfl
theorem bX10_isTransition_34 : bX10_isTransition 34 = [(.ireturn, 1)] := rfl
theorem uX10_isTransition_34 : uX10_isTransition 34 = none := rfl
theorem aX10_isTransition_76 : aX10_isTransition 76 = some (3, true, 0, 0, C_X10_in) := rfl
theorem aX10_isTransition_80 : aX10_isTransition 80 = some (1, true, 0, 0, C_X10_isSlot) := rfl
def mX10_isTransition : Room := { frames := 2, cells := 1, slots := 6, locals := 42 }
set_option maxRecDepth 100000 in
set_option maxHeartbeats 4000000 in
theorem okX10_isTransition : pvOkM fX10 aX10_isTransition kX10 eX10 (some .boolean) bX10_isTransition uX10_isTransition 3 C_X10_isTransition := by
  intro Q SW hc as z h hS hz
  unfold C_X10_isTransition at h
  split at h
  · rename_i id s t
    obtain ⟨hid, h⟩ := h
    refine ⟨Nat.le_of_ble_eq_true rfl, hc 20 _ _ _ fun _ _ => ?_⟩
    clear hc hS
    subst hid
    (simp only [pvSt1]
     simp only [C_X10_in, C_X10_isSlot, pvE_iload_n1, pvLI_s, pvLd, pvE_invokestatic (h0 := eX10_80), pvC1_s, pvC2_s, pvAf_v, pvAf_x, pvPop, pvCs, pvCat, pvPush, aX10_isTransition_80, pvE_if_eq, pvE_iload_n2, pvE_iconst, pvE_aload_n0, pvLA_s, pvE_getfield, pvGf_0, pvGf_1, pvGf_2, fX10_7, pvSh_0, pvSh_1, pvSh_2, pvSh_3, pvSh_4, pvSh_5, pvSh_6, pvSh_7, pvSh_8, pvSh_9, pvSh_10, pvSh_11, pvSh_12, pvSh_13, pvSh_14, pvSh_15, pvSh_16, pvSh_17, pvSh_18, pvSh_19, pvSh_20, pvSh_21, pvSh_22, pvSh_23, pvSh_24, pvSh_25, pvSh_26, pvSh_27, pvSh_28, pvSh_29, pvSh_30, pvSh_31, pvSh_32, pvSh_33, pvSh_34, pvSh_35, pvSh_36, pvSh_37, pvSh_38, pvSh_39, pvSh_40, pvSh_41, pvSh_42, pvSh_43, pvSh_44, pvSh_45, pvSh_46, pvSh_47, pvSh_48, pvSh_49, pvSh_50, pvSh_51, pvSh_52, pvSh_53, pvSh_54, pvSh_55, pvSh_56, pvSh_57, pvSh_58, pvSh_59, pvRf_0_0, pvRf_0_1, pvRf_0_2, pvRf_0_3, pvRf_0_4, pvRf_0_5, pvRf_0_6, pvRf_0_7, pvRf_0_8, pvRf_0_9, pvRf_0_10, pvRf_1_0, pvRf_3_0, pvRf_5_0, pvRf_5_1, pvRf_5_2, pvRf_9_0, pvRf_9_1, pvRf_9_2, pvRf_13_0, pvRf_13_1, pvRf_13_2, pvRf_17_0, pvRf_17_2, pvRf_20_0, pvRf_20_1, pvRf_20_2, pvRf_24_0, pvRf_24_1, pvRf_24_2, pvRf_28_0, pvRf_28_1, pvRf_28_2, pvRf_28_3, pvRf_33_0, pvRf_33_1, pvRf_36_0, pvRf_36_1, pvRf_39_0, pvRf_39_1, pvRf_39_2, pvRf_39_5, pvRf_39_6, pvRf_39_9, pvRf_39_13, pvRf_39_15, pvRf_39_16, pvRf_39_17, pvRf_39_19, pvRf_39_20, pvRf_39_22, pvRf_39_23, pvRf_39_24, pvRf_39_25, pvRf_39_29, pvRf_39_30, pvE_sipush, pvE_imul, pvE_iadd, pvE_iaload, pvAI, pvE_isub, pvE_invokestatic (h0 := eX10_76), aX10_isTransition_76, pvE_goto, pvE_ireturn, bX10_isTransition_0, uX10_isTransition_0, bX10_isTransition_33, uX10_isTransition_33, bX10_isTransition_34, uX10_isTransition_34, pvRecv_r, pvUp_nl, pvUp_same, pvUp_ap, pvSt_ap, pvX_c, pvX_ms, pvX_mn, pvE_nil, pvEn_i, pvEn_r, pvEn_l, pvEn_0, pvEn_s, pvRt, pvRv, pvTh, pvKc, pvGo, pvTgt, Int.toNat_natCast, false_and, and_false, true_and, and_true, if_true, if_false, reduceIte, reduceCtorEq, forall_const, false_or, or_false, true_or, or_true, ne_eq, not_true_eq_false, not_false_eq_true, implies_true, false_implies, Nat.reduceAdd, Nat.reduceSub, Nat.reduceMul, Nat.reduceEqDiff, Nat.reduceLT, Nat.reduceLeDiff, Int.reduceAdd, Int.reduceSub, Int.reduceMul, Int.reduceNeg, Int.reduceToNat, Int.reduceLE, Int.reduceLT, Int.reduceEq, Int.reduceNe, and_self]
     (unfold rcF at h; grind))
  · exact h.elim
def C_X10_at : pvC
  | [.inl s, .inl t], z, Q => (0 ≤ s ∧ s ≤ 1 ∧ 0 ≤ t ∧ t ≤ 10) ∧ Q (.inl (some (vI (163 * s + 3 + 16 * t)))) z
  | _, _, _ => False
def bX10_at : Nat → List (Instr × Nat)
  | 0 => [(.sipush 163, 3), (.iload_n 0, 1), (.imul, 1), (.iconst 3, 1), (.iadd, 1), (.bipush 16, 2), (.iload_n 1, 1), (.imul, 1), (.iadd, 1), (.ireturn, 1)]
  | _ => []
def uX10_at : Nat → Option (List Bool)
  | _ => none
def aX10_at : pvCa
  | _ => none
theorem bX10_at_0 : bX10_at 0 = [(.sipush 163, 3), (.iload_n 0, 1), (.imul, 1), (.iconst 3, 1), (.iadd, 1), (.bipush 16, 2), (.iload_n 1, 1), (.imul, 1), (.iadd, 1), (.ireturn, 1)] := rfl
theorem uX10_at_0 : uX10_at 0 = none := rfl
def mX10_at : Room := { frames := 0, cells := 1, slots := 6, locals := 0 }
set_option maxRecDepth 100000 in
set_option maxHeartbeats 4000000 in
theorem okX10_at : pvOkM fX10 aX10_at kX10 eX10 (some .int) bX10_at uX10_at 2 C_X10_at := by
  intro Q SW hc as z h hS hz
  unfold C_X10_at at h
  split at h
  · rename_i s t
    refine ⟨Nat.le_of_ble_eq_true rfl, hc 20 _ _ _ fun _ _ => ?_⟩
    clear hc hS
    simp only [pvSt1]
    simp only [pvE_sipush, pvE_iload_n0, pvLI_s, pvLd, pvE_imul, pvE_iconst, pvE_iadd, pvE_bipush, pvE_iload_n1, pvE_ireturn, bX10_at_0, uX10_at_0, pvRecv_r, pvUp_nl, pvUp_same, pvUp_ap, pvSt_ap, pvX_c, pvX_ms, pvX_mn, pvE_nil, pvEn_i, pvEn_r, pvEn_l, pvEn_0, pvEn_s, pvRt, pvRv, pvTh, pvKc, pvGo, pvTgt, Int.toNat_natCast, false_and, and_false, true_and, and_true, if_true, if_false, reduceIte, reduceCtorEq, forall_const, false_or, or_false, true_or, or_true, ne_eq, not_true_eq_false, not_false_eq_true, implies_true, false_implies, Nat.reduceAdd, Nat.reduceSub, Nat.reduceMul, Nat.reduceEqDiff, Nat.reduceLT, Nat.reduceLeDiff, Int.reduceAdd, Int.reduceSub, Int.reduceMul, Int.reduceNeg, Int.reduceToNat, Int.reduceLE, Int.reduceLT, Int.reduceEq, Int.reduceNe, and_self]
    grind
  · exact h.elim
def C_X10_part : pvC
  | [.inl v, .inl c], z, Q => (0 ≤ v ∧ v < 216 ∧ 0 ≤ c ∧ c ≤ 2) ∧ Q (.inl (some (vI (ptF v c)))) z
  | _, _, _ => False
def bX10_part : Nat → List (Instr × Nat)
  | 0 => [(.iload_n 1, 1), (.ifCond .ne 10, 3), (.iload_n 0, 1), (.bipush 6, 2), (.irem, 1), (.goto 22, 3)]
  | 11 => [(.iload_n 1, 1), (.iconst 1, 1), (.if_icmp .ne 13, 3), (.iload_n 0, 1), (.bipush 6, 2), (.idiv, 1), (.bipush 6, 2), (.irem, 1), (.goto 7, 3)]
  | 26 => [(.iload_n 0, 1), (.bipush 36, 2), (.idiv, 1)]
  | 30 => [(.ireturn, 1)]
  | _ => []
def uX10_part : Nat → Option (List Bool)
  | _ => none
def aX10_part : pvCa
  | _ => none
theorem bX10_part_0 : bX10_part 0 = [(.iload_n 1, 1), (.ifCond .ne 10, 3), (.iload_n 0, 1), (.bipush 6, 2), (.irem, 1), (.goto 22, 3)] := rfl
theorem uX10_part_0 : uX10_part 0 = none := rfl
theorem bX10_part_11 : bX10_part 11 = [(.iload_n 1, 1), (.iconst 1, 1), (.if_icmp .ne 13, 3), (.iload_n 0, 1), (.bipush 6, 2), (.idiv, 1), (.bipush 6, 2), (.irem, 1), (.goto 7, 3)] := rfl
theorem uX10_part_11 : uX10_part 11 = none := rfl
theorem bX10_part_26 : bX10_part 26 = [(.iload_n 0, 1), (.bipush 36, 2), (.idiv, 1)] := rfl
theorem uX10_part_26 : uX10_part 26 = none := rfl
theorem bX10_part_30 : bX10_part 30 = [(.ireturn, 1)] := rfl
theorem uX10_part_30 : uX10_part 30 = none := rfl
def mX10_part : Room := { frames := 0, cells := 1, slots := 6, locals := 0 }
set_option maxRecDepth 100000 in
set_option maxHeartbeats 4000000 in
theorem okX10_part : pvOkM fX10 aX10_part kX10 eX10 (some .int) bX10_part uX10_part 2 C_X10_part := by
  intro Q SW hc as z h hS hz
  unfold C_X10_part at h
  split at h
  · rename_i v c
    refine ⟨Nat.le_of_ble_eq_true rfl, hc 20 _ _ _ fun _ _ => ?_⟩
    clear hc hS
    simp only [pvSt1]
    simp only [pvE_iload_n1, pvLI_s, pvLd, pvE_if_ne, pvE_iload_n0, pvE_bipush, pvE_irem, pvE_goto, pvE_iconst, pvE_icmp_ne, pvE_idiv, pvE_ireturn, bX10_part_0, uX10_part_0, bX10_part_11, uX10_part_11, bX10_part_26, uX10_part_26, bX10_part_30, uX10_part_30, pvRecv_r, pvUp_nl, pvUp_same, pvUp_ap, pvSt_ap, pvX_c, pvX_ms, pvX_mn, pvE_nil, pvEn_i, pvEn_r, pvEn_l, pvEn_0, pvEn_s, pvRt, pvRv, pvTh, pvKc, pvGo, pvTgt, Int.toNat_natCast, false_and, and_false, true_and, and_true, if_true, if_false, reduceIte, reduceCtorEq, forall_const, false_or, or_false, true_or, or_true, ne_eq, not_true_eq_false, not_false_eq_true, implies_true, false_implies, Nat.reduceAdd, Nat.reduceSub, Nat.reduceMul, Nat.reduceEqDiff, Nat.reduceLT, Nat.reduceLeDiff, Int.reduceAdd, Int.reduceSub, Int.reduceMul, Int.reduceNeg, Int.reduceToNat, Int.reduceLE, Int.reduceLT, Int.reduceEq, Int.reduceNe, and_self]
    (unfold ptF at h; grind)
  · exact h.elim
def C_X10_older : pvC
  | [.inl x, .inl d], z, Q => (0 ≤ x ∧ x ≤ 5 ∧ 0 ≤ d ∧ d ≤ 4) ∧ Q (.inl (some (vI (gwF x d)))) z
  | _, _, _ => False
def bX10_older : Nat → List (Instr × Nat)
  | 0 => [(.iload_n 0, 1), (.iconst 5, 1), (.if_icmp .ne 7, 3), (.iconst 5, 1), (.goto 17, 3)]
  | 9 => [(.iload_n 0, 1), (.iload_n 1, 1), (.iadd, 1), (.iconst 4, 1), (.if_icmp .le 7, 3), (.iconst 4, 1), (.goto 6, 3)]
  | 20 => [(.iload_n 0, 1), (.iload_n 1, 1), (.iadd, 1)]
  | 23 => [(.ireturn, 1)]
  | _ => []
def uX10_older : Nat → Option (List Bool)
  | _ => none
def aX10_older : pvCa
  | _ => none
theorem bX10_older_0 : bX10_older 0 = [(.iload_n 0, 1), (.iconst 5, 1), (.if_icmp .ne 7, 3), (.iconst 5, 1), (.goto 17, 3)] := rfl
theorem uX10_older_0 : uX10_older 0 = none := rfl
theorem bX10_older_9 : bX10_older 9 = [(.iload_n 0, 1), (.iload_n 1, 1), (.iadd, 1), (.iconst 4, 1), (.if_icmp .le 7, 3), (.iconst 4, 1), (.goto 6, 3)] := rfl
theorem uX10_older_9 : uX10_older 9 = none := rfl
theorem bX10_older_20 : bX10_older 20 = [(.iload_n 0, 1), (.iload_n 1, 1), (.iadd, 1)] := rfl
theorem uX10_older_20 : uX10_older 20 = none := rfl
theorem bX10_older_23 : bX10_older 23 = [(.ireturn, 1)] := rfl
theorem uX10_older_23 : uX10_older 23 = none := rfl
def mX10_older : Room := { frames := 0, cells := 1, slots := 6, locals := 0 }
set_option maxRecDepth 100000 in
set_option maxHeartbeats 4000000 in
theorem okX10_older : pvOkM fX10 aX10_older kX10 eX10 (some .int) bX10_older uX10_older 2 C_X10_older := by
  intro Q SW hc as z h hS hz
  unfold C_X10_older at h
  split at h
  · rename_i v c
    refine ⟨Nat.le_of_ble_eq_true rfl, hc 20 _ _ _ fun _ _ => ?_⟩
    clear hc hS
    simp only [pvSt1]
    simp only [pvE_iload_n0, pvLI_s, pvLd, pvE_iconst, pvE_icmp_ne, pvE_goto, pvE_iload_n1, pvE_iadd, pvE_icmp_le, pvE_ireturn, bX10_older_0, uX10_older_0, bX10_older_9, uX10_older_9, bX10_older_20, uX10_older_20, bX10_older_23, uX10_older_23, pvRecv_r, pvUp_nl, pvUp_same, pvUp_ap, pvSt_ap, pvX_c, pvX_ms, pvX_mn, pvE_nil, pvEn_i, pvEn_r, pvEn_l, pvEn_0, pvEn_s, pvRt, pvRv, pvTh, pvKc, pvGo, pvTgt, Int.toNat_natCast, false_and, and_false, true_and, and_true, if_true, if_false, reduceIte, reduceCtorEq, forall_const, false_or, or_false, true_or, or_true, ne_eq, not_true_eq_false, not_false_eq_true, implies_true, false_implies, Nat.reduceAdd, Nat.reduceSub, Nat.reduceMul, Nat.reduceEqDiff, Nat.reduceLT, Nat.reduceLeDiff, Int.reduceAdd, Int.reduceSub, Int.reduceMul, Int.reduceNeg, Int.reduceToNat, Int.reduceLE, Int.reduceLT, Int.reduceEq, Int.reduceNe, and_self]
    (unfold gwF at h; grind)
  · exact h.elim
def C_X10_passes : pvC
  | [.inl v, .inl d], z, Q => (0 ≤ v ∧ v < 216 ∧ 0 ≤ d ∧ d ≤ 4) ∧ Q (.inl (some (vI (psF v d)))) z
  | _, _, _ => False
def bX10_passes : Nat → List (Instr × Nat)
  | 0 => [(.iload_n 0, 1), (.bipush 6, 2), (.irem, 1), (.iload_n 1, 1), (.invokestatic 142, 3), (.bipush 6, 2), (.iload_n 0, 1), (.bipush 6, 2), (.idiv, 1), (.bipush 6, 2), (.irem, 1), (.iload_n 1, 1), (.invokestatic 142, 3), (.imul, 1), (.iadd, 1), (.bipush 36, 2), (.iload_n 0, 1), (.bipush 36, 2), (.idiv, 1), (.iload_n 1, 1), (.invokestatic 142, 3), (.imul, 1), (.iadd, 1), (.ireturn, 1)]
  | _ => []
def uX10_passes : Nat → Option (List Bool)
  | _ => none
def aX10_passes : pvCa
  | 142 => some (2, true, 0, 0, C_X10_older)
  | _ => none
theorem bX10_passes_0 : bX10_passes 0 = [(.iload_n 0, 1), (.bipush 6, 2), (.irem, 1), (.iload_n 1, 1), (.invokestatic 142, 3), (.bipush 6, 2), (.iload_n 0, 1), (.bipush 6, 2), (.idiv, 1), (.bipush 6, 2), (.irem, 1), (.iload_n 1, 1), (.invokestatic 142, 3), (.imul, 1), (.iadd, 1), (.bipush 36, 2), (.iload_n 0, 1), (.bipush 36, 2), (.idiv, 1), (.iload_n 1, 1), (.invokestatic 142, 3), (.imul, 1), (.iadd, 1), (.ireturn, 1)] := rfl
theorem uX10_passes_0 : uX10_passes 0 = none := rfl
theorem aX10_passes_142 : aX10_passes 142 = some (2, true, 0, 0, C_X10_older) := rfl
def mX10_passes : Room := { frames := 1, cells := 1, slots := 6, locals := 21 }
set_option maxRecDepth 100000 in
set_option maxHeartbeats 4000000 in
theorem okX10_passes : pvOkM fX10 aX10_passes kX10 eX10 (some .int) bX10_passes uX10_passes 2 C_X10_passes := by
  intro Q SW hc as z h hS hz
  unfold C_X10_passes at h
  split at h
  · rename_i v d
    obtain ⟨h1, h2⟩ := h
    refine ⟨Nat.le_of_ble_eq_true rfl, hc 20 _ _ _ fun _ _ => ?_⟩
    clear hc hS
    have e1 := gwF_r (x := v % 6) (d := d) (by omega)
    have e2 := gwF_r (x := v / 6 % 6) (d := d) (by omega)
    have e3 := gwF_r (x := v / 36) (d := d) (by omega)
    simp only [pvSt1]
    simp only [C_X10_older, pvE_iload_n0, pvLI_s, pvLd, pvE_bipush, pvE_irem, pvE_iload_n1, pvE_invokestatic (h0 := eX10_142), pvC1_s, pvC2_s, pvAf_v, pvAf_x, pvPop, pvCs, pvCat, pvPush, aX10_passes_142, pvE_idiv, pvE_imul, pvE_iadd, pvE_ireturn, bX10_passes_0, uX10_passes_0, pvRecv_r, pvUp_nl, pvUp_same, pvUp_ap, pvSt_ap, pvX_c, pvX_ms, pvX_mn, pvE_nil, pvEn_i, pvEn_r, pvEn_l, pvEn_0, pvEn_s, pvRt, pvRv, pvTh, pvKc, pvGo, pvTgt, Int.toNat_natCast, false_and, and_false, true_and, and_true, if_true, if_false, reduceIte, reduceCtorEq, forall_const, false_or, or_false, true_or, or_true, ne_eq, not_true_eq_false, not_false_eq_true, implies_true, false_implies, Nat.reduceAdd, Nat.reduceSub, Nat.reduceMul, Nat.reduceEqDiff, Nat.reduceLT, Nat.reduceLeDiff, Int.reduceAdd, Int.reduceSub, Int.reduceMul, Int.reduceNeg, Int.reduceToNat, Int.reduceLE, Int.reduceLT, Int.reduceEq, Int.reduceNe, and_self]
    unfold psF at h2
    and_intros <;> first | omega | exact h2
  · exact h.elim
def C_X10_resets : pvC
  | [.inl v, .inl c], z, Q => (0 ≤ v ∧ v < 216 ∧ 0 ≤ c ∧ c ≤ 2) ∧ Q (.inl (some (vI (rsF v c)))) z
  | _, _, _ => False
def bX10_resets : Nat → List (Instr × Nat)
  | 0 => [(.iload_n 0, 1), (.iload_n 0, 1), (.iload_n 1, 1), (.invokestatic 145, 3), (.iload_n 1, 1), (.ifCond .ne 7, 3), (.iconst 1, 1), (.goto 15, 3)]
  | 14 => [(.iload_n 1, 1), (.iconst 1, 1), (.if_icmp .ne 8, 3), (.bipush 6, 2), (.goto 5, 3)]
  | 24 => [(.bipush 36, 2)]
  | 26 => [(.imul, 1), (.isub, 1), (.ireturn, 1)]
  | _ => []
def uX10_resets : Nat → Option (List Bool)
  | _ => none
def aX10_resets : pvCa
  | 145 => some (2, true, 0, 0, C_X10_part)
  | _ => none
theorem bX10_resets_0 : bX10_resets 0 = [(.iload_n 0, 1), (.iload_n 0, 1), (.iload_n 1, 1), (.invokestatic 145, 3), (.iload_n 1, 1), (.ifCond .ne 7, 3), (.iconst 1, 1), (.goto 15, 3)] := rfl
theorem uX10_resets_0 : uX10_resets 0 = none := rfl
theorem bX10_resets_14 : bX10_resets 14 = [(.iload_n 1, 1), (.iconst 1, 1), (.if_icmp .ne 8, 3), (.bipush 6, 2), (.goto 5, 3)] := rfl
theorem uX10_resets_14 : uX10_resets 14 = none := rfl
theorem bX10_resets_24 : bX10_resets 24 = [(.bipush 36, 2)] := rfl
theorem uX10_resets_24 : uX10_resets 24 = none := rfl
theorem bX10_resets_26 : bX10_resets 26 = [(.imul, 1), (.isub, 1), (.ireturn, 1)] := rfl
theorem uX10_resets_26 : uX10_resets 26 = none := rfl
theorem aX10_resets_145 : aX10_resets 145 = some (2, true, 0, 0, C_X10_part) := rfl
def mX10_resets : Room := { frames := 1, cells := 1, slots := 6, locals := 21 }
set_option maxRecDepth 100000 in
set_option maxHeartbeats 4000000 in
theorem okX10_resets : pvOkM fX10 aX10_resets kX10 eX10 (some .int) bX10_resets uX10_resets 2 C_X10_resets := by
  intro Q SW hc as z h hS hz
  unfold C_X10_resets at h
  split at h
  · rename_i v c
    obtain ⟨h1, h2⟩ := h
    refine ⟨Nat.le_of_ble_eq_true rfl, hc 20 _ _ _ fun _ _ => ?_⟩
    clear hc hS
    have e1 := ptF_r (v := v) (c := c) (by omega)
    have e : rsF v c = v - ptF v c * (if c = 0 then 1 else if c = 1 then 6 else 36) := by
      unfold rsF ptF
      split
      · omega
      · split <;> omega
    rw [e] at h2
    simp only [pvSt1]
    simp only [C_X10_part, pvE_iload_n0, pvLI_s, pvLd, pvE_iload_n1, pvE_invokestatic (h0 := eX10_145), pvC1_s, pvC2_s, pvAf_v, pvAf_x, pvPop, pvCs, pvCat, pvPush, aX10_resets_145, pvE_if_ne, pvE_iconst, pvE_goto, pvE_icmp_ne, pvE_bipush, pvE_imul, pvE_isub, pvE_ireturn, bX10_resets_0, uX10_resets_0, bX10_resets_14, uX10_resets_14, bX10_resets_24, uX10_resets_24, bX10_resets_26, uX10_resets_26, pvRecv_r, pvUp_nl, pvUp_same, pvUp_ap, pvSt_ap, pvX_c, pvX_ms, pvX_mn, pvE_nil, pvEn_i, pvEn_r, pvEn_l, pvEn_0, pvEn_s, pvRt, pvRv, pvTh, pvKc, pvGo, pvTgt, Int.toNat_natCast, false_and, and_false, true_and, and_true, if_true, if_false, reduceIte, reduceCtorEq, forall_const, false_or, or_false, true_or, or_true, ne_eq, not_true_eq_false, not_false_eq_true, implies_true, false_implies, Nat.reduceAdd, Nat.reduceSub, Nat.reduceMul, Nat.reduceEqDiff, Nat.reduceLT, Nat.reduceLeDiff, Int.reduceAdd, Int.reduceSub, Int.reduceMul, Int.reduceNeg, Int.reduceToNat, Int.reduceLE, Int.reduceLT, Int.reduceEq, Int.reduceNe, and_self]
    rcases (show c = 0 ∨ c = 1 ∨ c = 2 by omega) with rfl | rfl | rfl <;> simp at h2 ⊢ <;> and_intros <;> first | omega | exact h2
  · exact h.elim
def C_X10_digit : pvC
  | [.inl x], z, Q => (0 ≤ x ∧ x ≤ 5) ∧ Q (.inl (some (vI (dgF x)))) z
  | _, _, _ => False
def bX10_digit : Nat → List (Instr × Nat)
  | 0 => [(.iload_n 0, 1), (.iconst 5, 1), (.if_icmp .ne 8, 3), (.bipush 9, 2), (.goto 4, 3)]
  | 10 => [(.iload_n 0, 1)]
  | 11 => [(.ireturn, 1)]
  | _ => []
def uX10_digit : Nat → Option (List Bool)
  | _ => none
def aX10_digit : pvCa
  | _ => none
theorem bX10_digit_0 : bX10_digit 0 = [(.iload_n 0, 1), (.iconst 5, 1), (.if_icmp .ne 8, 3), (.bipush 9, 2), (.goto 4, 3)] := rfl
theorem uX10_digit_0 : uX10_digit 0 = none := rfl
theorem bX10_digit_10 : bX10_digit 10 = [(.iload_n 0, 1)] := rfl
theorem uX10_digit_10 : uX10_digit 10 = none := rfl
theorem bX10_digit_11 : bX10_digit 11 = [(.ireturn, 1)] := rfl
theorem uX10_digit_11 : uX10_digit 11 = none := rfl
def mX10_digit : Room := { frames := 0, cells := 1, slots := 6, locals := 0 }
set_option maxRecDepth 100000 in
set_option maxHeartbeats 4000000 in
theorem okX10_digit : pvOkM fX10 aX10_digit kX10 eX10 (some .int) bX10_digit uX10_digit 1 C_X10_digit := by
  intro Q SW hc as z h hS hz
  unfold C_X10_digit at h
  split at h
  · rename_i x
    refine ⟨Nat.le_of_ble_eq_true rfl, hc 20 _ _ _ fun _ _ => ?_⟩
    clear hc hS
    simp only [pvSt1]
    simp only [pvE_iload_n0, pvLI_s, pvLd, pvE_iconst, pvE_icmp_ne, pvE_bipush, pvE_goto, pvE_ireturn, bX10_digit_0, uX10_digit_0, bX10_digit_10, uX10_digit_10, bX10_digit_11, uX10_digit_11, pvRecv_r, pvUp_nl, pvUp_same, pvUp_ap, pvSt_ap, pvX_c, pvX_ms, pvX_mn, pvE_nil, pvEn_i, pvEn_r, pvEn_l, pvEn_0, pvEn_s, pvRt, pvRv, pvTh, pvKc, pvGo, pvTgt, Int.toNat_natCast, false_and, and_false, true_and, and_true, if_true, if_false, reduceIte, reduceCtorEq, forall_const, false_or, or_false, true_or, or_true, ne_eq, not_true_eq_false, not_false_eq_true, implies_true, false_implies, Nat.reduceAdd, Nat.reduceSub, Nat.reduceMul, Nat.reduceEqDiff, Nat.reduceLT, Nat.reduceLeDiff, Int.reduceAdd, Int.reduceSub, Int.reduceMul, Int.reduceNeg, Int.reduceToNat, Int.reduceLE, Int.reduceLT, Int.reduceEq, Int.reduceNe, and_self]
    (unfold dgF at h; grind)
  · exact h.elim
def C_X10_told : pvC
  | [.inl v], z, Q => (0 ≤ v ∧ v < 216) ∧ Q (.inl (some (vI (tdF v)))) z
  | _, _, _ => False
def bX10_told : Nat → List (Instr × Nat)
  | 0 => [(.iload_n 0, 1), (.bipush 6, 2), (.irem, 1), (.invokestatic 148, 3), (.bipush 10, 2), (.iload_n 0, 1), (.bipush 6, 2), (.idiv, 1), (.bipush 6, 2), (.irem, 1), (.invokestatic 148, 3), (.imul, 1), (.iadd, 1), (.bipush 100, 2), (.iload_n 0, 1), (.bipush 36, 2), (.idiv, 1), (.invokestatic 148, 3), (.imul, 1), (.iadd, 1), (.ireturn, 1)]
  | _ => []
def uX10_told : Nat → Option (List Bool)
  | _ => none
def aX10_told : pvCa
  | 148 => some (1, true, 0, 0, C_X10_digit)
  | _ => none
theorem bX10_told_0 : bX10_told 0 = [(.iload_n 0, 1), (.bipush 6, 2), (.irem, 1), (.invokestatic 148, 3), (.bipush 10, 2), (.iload_n 0, 1), (.bipush 6, 2), (.idiv, 1), (.bipush 6, 2), (.irem, 1), (.invokestatic 148, 3), (.imul, 1), (.iadd, 1), (.bipush 100, 2), (.iload_n 0, 1), (.bipush 36, 2), (.idiv, 1), (.invokestatic 148, 3), (.imul, 1), (.iadd, 1), (.ireturn, 1)] := rfl
theorem uX10_told_0 : uX10_told 0 = none := rfl
theorem aX10_told_148 : aX10_told 148 = some (1, true, 0, 0, C_X10_digit) := rfl
def mX10_told : Room := { frames := 1, cells := 1, slots := 6, locals := 20 }
set_option maxRecDepth 100000 in
set_option maxHeartbeats 4000000 in
theorem okX10_told : pvOkM fX10 aX10_told kX10 eX10 (some .int) bX10_told uX10_told 1 C_X10_told := by
  intro Q SW hc as z h hS hz
  unfold C_X10_told at h
  split at h
  · rename_i v
    obtain ⟨h1, h2⟩ := h
    refine ⟨Nat.le_of_ble_eq_true rfl, hc 20 _ _ _ fun _ _ => ?_⟩
    clear hc hS
    have e1 := dgF_r (x := v % 6) (by omega)
    have e2 := dgF_r (x := v / 6 % 6) (by omega)
    have e3 := dgF_r (x := v / 36) (by omega)
    simp only [pvSt1]
    simp only [C_X10_digit, pvE_iload_n0, pvLI_s, pvLd, pvE_bipush, pvE_irem, pvE_invokestatic (h0 := eX10_148), pvC1_s, pvC2_s, pvAf_v, pvAf_x, pvPop, pvCs, pvCat, pvPush, aX10_told_148, pvE_idiv, pvE_imul, pvE_iadd, pvE_ireturn, bX10_told_0, uX10_told_0, pvRecv_r, pvUp_nl, pvUp_same, pvUp_ap, pvSt_ap, pvX_c, pvX_ms, pvX_mn, pvE_nil, pvEn_i, pvEn_r, pvEn_l, pvEn_0, pvEn_s, pvRt, pvRv, pvTh, pvKc, pvGo, pvTgt, Int.toNat_natCast, false_and, and_false, true_and, and_true, if_true, if_false, reduceIte, reduceCtorEq, forall_const, false_or, or_false, true_or, or_true, ne_eq, not_true_eq_false, not_false_eq_true, implies_true, false_implies, Nat.reduceAdd, Nat.reduceSub, Nat.reduceMul, Nat.reduceEqDiff, Nat.reduceLT, Nat.reduceLeDiff, Int.reduceAdd, Int.reduceSub, Int.reduceMul, Int.reduceNeg, Int.reduceToNat, Int.reduceLE, Int.reduceLT, Int.reduceEq, Int.reduceNe, and_self]
    unfold tdF at h2
    and_intros <;> first | omega | exact h2
  · exact h.elim
def C_X10_holds : pvC
  | [.inl k, .inl n, .inl x], z, Q => (0 ≤ k ∧ k ≤ 6 ∧ 0 ≤ n ∧ n ≤ 3 ∧ 0 ≤ x ∧ x ≤ 5) ∧ (hdF k n x = true → Q (.inl (some (vI 1))) z) ∧ (hdF k n x = false → Q (.inl (some (vI 0))) z)
  | _, _, _ => False
def bX10_holds : Nat → List (Instr × Nat)
  | 0 => [(.iload_n 0, 1), (.iconst 5, 1), (.if_icmp .lt 32, 3), (.iload_n 2, 1), (.iconst 5, 1), (.if_icmp .ne 7, 3), (.iconst 1, 1), (.goto 4, 3)]
  | 14 => [(.iconst 0, 1)]
  | 15 => [(.iload_n 0, 1), (.iconst 5, 1), (.if_icmp .ne 7, 3), (.iconst 1, 1), (.goto 4, 3)]
  | 24 => [(.iconst 0, 1)]
  | 25 => [(.if_icmp .ne 7, 3), (.iconst 1, 1), (.goto 4, 3)]
  | 32 => [(.iconst 0, 1)]
  | 33 => [(.ireturn, 1)]
  | 34 => [(.iload_n 2, 1), (.iconst 5, 1), (.if_icmp .ne 5, 3), (.iconst 0, 1), (.ireturn, 1)]
  | 41 => [(.iload_n 0, 1), (.tableswitch 74 0 3 #[30, 41, 52, 63], 30)]
  | 72 => [(.iload_n 2, 1), (.iload_n 1, 1), (.if_icmp .ge 7, 3), (.iconst 1, 1), (.goto 4, 3)]
  | 81 => [(.iconst 0, 1)]
  | 82 => [(.ireturn, 1)]
  | 83 => [(.iload_n 2, 1), (.iload_n 1, 1), (.if_icmp .gt 7, 3), (.iconst 1, 1), (.goto 4, 3)]
  | 92 => [(.iconst 0, 1)]
  | 93 => [(.ireturn, 1)]
  | 94 => [(.iload_n 2, 1), (.iload_n 1, 1), (.if_icmp .ne 7, 3), (.iconst 1, 1), (.goto 4, 3)]
  | 103 => [(.iconst 0, 1)]
  | 104 => [(.ireturn, 1)]
  | 105 => [(.iload_n 2, 1), (.iload_n 1, 1), (.if_icmp .lt 7, 3), (.iconst 1, 1), (.goto 4, 3)]
  | 114 => [(.iconst 0, 1)]
  | 115 => [(.ireturn, 1)]
  | 116 => [(.iload_n 2, 1), (.iload_n 1, 1), (.if_icmp .le 7, 3), (.iconst 1, 1), (.goto 4, 3)]
  | 125 => [(.iconst 0, 1)]
  | 126 => [(.ireturn, 1)]
  | _ => []
def uX10_holds : Nat → Option (List Bool)
  | _ => none
def aX10_holds : pvCa
  | _ => none
theorem bX10_holds_0 : bX10_holds 0 = [(.iload_n 0, 1), (.iconst 5, 1), (.if_icmp .lt 32, 3), (.iload_n 2, 1), (.iconst 5, 1), (.if_icmp .ne 7, 3), (.iconst 1, 1), (.goto 4, 3)] := rfl
theorem uX10_holds_0 : uX10_holds 0 = none := rfl
theorem bX10_holds_14 : bX10_holds 14 = [(.iconst 0, 1)] := rfl
theorem uX10_holds_14 : uX10_holds 14 = none := rfl
theorem bX10_holds_15 : bX10_holds 15 = [(.iload_n 0, 1), (.iconst 5, 1), (.if_icmp .ne 7, 3), (.iconst 1, 1), (.goto 4, 3)] := rfl
theorem uX10_holds_15 : uX10_holds 15 = none := rfl
theorem bX10_holds_24 : bX10_holds 24 = [(.iconst 0, 1)] := rfl
theorem uX10_holds_24 : uX10_holds 24 = none := rfl
theorem bX10_holds_25 : bX10_holds 25 = [(.if_icmp .ne 7, 3), (.iconst 1, 1), (.goto 4, 3)] := rfl
theorem uX10_holds_25 : uX10_holds 25 = none := rfl
theorem bX10_holds_32 : bX10_holds 32 = [(.iconst 0, 1)] := rfl
theorem uX10_holds_32 : uX10_holds 32 = none := rfl
theorem bX10_holds_33 : bX10_holds 33 = [(.ireturn, 1)] := rfl
theorem uX10_holds_33 : uX10_holds 33 = none := rfl
theorem bX10_holds_34 : bX10_holds 34 = [(.iload_n 2, 1), (.iconst 5, 1), (.if_icmp .ne 5, 3), (.iconst 0, 1), (.ireturn, 1)] := rfl
theorem uX10_holds_34 : uX10_holds 34 = none := rfl
theorem bX10_holds_41 : bX10_holds 41 = [(.iload_n 0, 1), (.tableswitch 74 0 3 #[30, 41, 52, 63], 30)] := rfl
theorem uX10_holds_41 : uX10_holds 41 = none := rfl
theorem bX10_holds_72 : bX10_holds 72 = [(.iload_n 2, 1), (.iload_n 1, 1), (.if_icmp .ge 7, 3), (.iconst 1, 1), (.goto 4, 3)] := rfl
theorem uX10_holds_72 : uX10_holds 72 = none := rfl
theorem bX10_holds_81 : bX10_holds 81 = [(.iconst 0, 1)] := rfl
theorem uX10_holds_81 : uX10_holds 81 = none := rfl
theorem bX10_holds_82 : bX10_holds 82 = [(.ireturn, 1)] := rfl
theorem uX10_holds_82 : uX10_holds 82 = none := rfl
theorem bX10_holds_83 : bX10_holds 83 = [(.iload_n 2, 1), (.iload_n 1, 1), (.if_icmp .gt 7, 3), (.iconst 1, 1), (.goto 4, 3)] := rfl
theorem uX10_holds_83 : uX10_holds 83 = none := rfl
theorem bX10_holds_92 : bX10_holds 92 = [(.iconst 0, 1)] := rfl
theorem uX10_holds_92 : uX10_holds 92 = none := rfl
theorem bX10_holds_93 : bX10_holds 93 = [(.ireturn, 1)] := rfl
theorem uX10_holds_93 : uX10_holds 93 = none := rfl
theorem bX10_holds_94 : bX10_holds 94 = [(.iload_n 2, 1), (.iload_n 1, 1), (.if_icmp .ne 7, 3), (.iconst 1, 1), (.goto 4, 3)] := rfl
theorem uX10_holds_94 : uX10_holds 94 = none := rfl
theorem bX10_holds_103 : bX10_holds 103 = [(.iconst 0, 1)] := rfl
theorem uX10_holds_103 : uX10_holds 103 = none := rfl
theorem bX10_holds_104 : bX10_holds 104 = [(.ireturn, 1)] := rfl
theorem uX10_holds_104 : uX10_holds 104 = none := rfl
theorem bX10_holds_105 : bX10_holds 105 = [(.iload_n 2, 1), (.iload_n 1, 1), (.if_icmp .lt 7, 3), (.iconst 1, 1), (.goto 4, 3)] := rfl
theorem uX10_holds_105 : uX10_holds 105 = none := rfl
theorem bX10_holds_114 : bX10_holds 114 = [(.iconst 0, 1)] := rfl
theorem uX10_holds_114 : uX10_holds 114 = none := rfl
theorem bX10_holds_115 : bX10_holds 115 = [(.ireturn, 1)] := rfl
theorem uX10_holds_115 : uX10_holds 115 = none := rfl
theorem bX10_holds_116 : bX10_holds 116 = [(.iload_n 2, 1), (.iload_n 1, 1), (.if_icmp .le 7, 3), (.iconst 1, 1), (.goto 4, 3)] := rfl
theorem uX10_holds_116 : uX10_holds 116 = none := rfl
theorem bX10_holds_125 : bX10_holds 125 = [(.iconst 0, 1)] := rfl
theorem uX10_holds_125 : uX10_holds 125 = none := rfl
theorem bX10_holds_126 : bX10_holds 126 = [(.ireturn, 1)] := rfl
theorem uX10_holds_126 : uX10_holds 126 = none := rfl
def mX10_holds : Room := { frames := 0, cells := 1, slots := 6, locals := 0 }
set_option maxRecDepth 100000 in
set_option maxHeartbeats 4000000 in
theorem okX10_holds : pvOkM fX10 aX10_holds kX10 eX10 (some .boolean) bX10_holds uX10_holds 3 C_X10_holds := by
  intro Q SW hc as z h hS hz
  unfold C_X10_holds at h
  split at h
  · rename_i k n x
    obtain ⟨h1, h2, h3⟩ := h
    refine ⟨Nat.le_of_ble_eq_true rfl, hc 20 _ _ _ fun _ _ => ?_⟩
    clear hc hS
    rcases (show k = 0 ∨ k = 1 ∨ k = 2 ∨ k = 3 ∨ k = 4 ∨ k = 5 ∨ k = 6 by omega) with rfl | rfl | rfl | rfl | rfl | rfl | rfl <;>
      simp only [hdF, Int.reduceLE, if_true, if_false, Int.reduceEq, reduceIte, decide_true, decide_false, beq_true, beq_false] at h2 h3 <;> simp only [pvSt1] <;>
      simp only [pvE_iload_n0, pvLI_s, pvLd, pvE_iconst, pvE_icmp_lt, pvE_iload_n2, pvE_icmp_ne, pvE_goto, pvE_ireturn, pvE_tableswitch, pvSw, pvE_iload_n1, pvE_icmp_ge, pvE_icmp_gt, pvE_icmp_le, bX10_holds_0, uX10_holds_0, bX10_holds_14, uX10_holds_14, bX10_holds_15, uX10_holds_15, bX10_holds_24, uX10_holds_24, bX10_holds_25, uX10_holds_25, bX10_holds_32, uX10_holds_32, bX10_holds_33, uX10_holds_33, bX10_holds_34, uX10_holds_34, bX10_holds_41, uX10_holds_41, bX10_holds_72, uX10_holds_72, bX10_holds_81, uX10_holds_81, bX10_holds_82, uX10_holds_82, bX10_holds_83, uX10_holds_83, bX10_holds_92, uX10_holds_92, bX10_holds_93, uX10_holds_93, bX10_holds_94, uX10_holds_94, bX10_holds_103, uX10_holds_103, bX10_holds_104, uX10_holds_104, bX10_holds_105, uX10_holds_105, bX10_holds_114, uX10_holds_114, bX10_holds_115, uX10_holds_115, bX10_holds_116, uX10_holds_116, bX10_holds_125, uX10_holds_125, bX10_holds_126, uX10_holds_126, pvRecv_r, pvUp_nl, pvUp_same, pvUp_ap, pvSt_ap, pvX_c, pvX_ms, pvX_mn, pvE_nil, pvEn_i, pvEn_r, pvEn_l, pvEn_0, pvEn_s, pvRt, pvRv, pvTh, pvKc, pvGo, pvTgt, Int.toNat_natCast, false_and, and_false, true_and, and_true, if_true, if_false, reduceIte, reduceCtorEq, forall_const, false_or, or_false, true_or, or_true, ne_eq, not_true_eq_false, not_false_eq_true, implies_true, false_implies, Nat.reduceAdd, Nat.reduceSub, Nat.reduceMul, Nat.reduceEqDiff, Nat.reduceLT, Nat.reduceLeDiff, Int.reduceAdd, Int.reduceSub, Int.reduceMul, Int.reduceNeg, Int.reduceToNat, Int.reduceLE, Int.reduceLT, Int.reduceEq, Int.reduceNe, and_self] <;>
      grind
  · exact h.elim
def C_X10_here : pvC
  | [.inr (.inr (.inl id))], z, Q => id = 39 ∧ (0 ≤ z.1 39 11 ∧ z.1 39 10 ≤ 30) ∧ (z.1 39 11 < z.1 39 10 → Q (.inl (some (vI (z.1 45 (z.1 39 11).toNat)))) z) ∧ (¬ z.1 39 11 < z.1 39 10 → Q (.inl (some (vI (-1)))) z)
  | _, _, _ => False
def bX10_here : Nat → List (Instr × Nat)
  | 0 => [(.aload_n 0, 1), (.getfield 101, 3), (.aload_n 0, 1), (.getfield 98, 3), (.if_icmp .ge 15, 3), (.aload_n 0, 1), (.getfield 25, 3), (.aload_n 0, 1), (.getfield 101, 3), (.iaload, 1), (.goto 4, 3)]
  | 23 => [(.iconst (-1), 1)]
  | 24 => [(.ireturn, 1)]
  | _ => []
def uX10_here : Nat → Option (List Bool)
  | _ => none
def aX10_here : pvCa
  | _ => none
theorem bX10_here_0 : bX10_here 0 = [(.aload_n 0, 1), (.getfield 101, 3), (.aload_n 0, 1), (.getfield 98, 3), (.if_icmp .ge 15, 3), (.aload_n 0, 1), (.getfield 25, 3), (.aload_n 0, 1), (.getfield 101, 3), (.iaload, 1), (.goto 4, 3)] := rfl
theorem uX10_here_0 : uX10_here 0 = none := rfl
theorem bX10_here_23 : bX10_here 23 = [(.iconst (-1), 1)] := rfl
theorem uX10_here_23 : uX10_here 23 = none := rfl
theorem bX10_here_24 : bX10_here 24 = [(.ireturn, 1)] := rfl
theorem uX10_here_24 : uX10_here 24 = none := rfl
def mX10_here : Room := { frames := 0, cells := 1, slots := 6, locals := 0 }
set_option maxRecDepth 100000 in
set_option maxHeartbeats 4000000 in
theorem okX10_here : pvOkM fX10 aX10_here kX10 eX10 (some .int) bX10_here uX10_here 1 C_X10_here := by
  intro Q SW hc as z h hS hz
  unfold C_X10_here at h
  split at h
  · rename_i id
    obtain ⟨hid, h⟩ := h
    refine ⟨Nat.le_of_ble_eq_true rfl, hc 20 _ _ _ fun _ _ => ?_⟩
    clear hc hS
    subst hid
    (simp only [pvSt1]
     simp only [pvE_aload_n0, pvLA_s, pvLd, pvE_getfield, pvGf_0, pvGf_1, pvGf_2, fX10_101, pvSh_0, pvSh_1, pvSh_2, pvSh_3, pvSh_4, pvSh_5, pvSh_6, pvSh_7, pvSh_8, pvSh_9, pvSh_10, pvSh_11, pvSh_12, pvSh_13, pvSh_14, pvSh_15, pvSh_16, pvSh_17, pvSh_18, pvSh_19, pvSh_20, pvSh_21, pvSh_22, pvSh_23, pvSh_24, pvSh_25, pvSh_26, pvSh_27, pvSh_28, pvSh_29, pvSh_30, pvSh_31, pvSh_32, pvSh_33, pvSh_34, pvSh_35, pvSh_36, pvSh_37, pvSh_38, pvSh_39, pvSh_40, pvSh_41, pvSh_42, pvSh_43, pvSh_44, pvSh_45, pvSh_46, pvSh_47, pvSh_48, pvSh_49, pvSh_50, pvSh_51, pvSh_52, pvSh_53, pvSh_54, pvSh_55, pvSh_56, pvSh_57, pvSh_58, pvSh_59, pvRf_0_0, pvRf_0_1, pvRf_0_2, pvRf_0_3, pvRf_0_4, pvRf_0_5, pvRf_0_6, pvRf_0_7, pvRf_0_8, pvRf_0_9, pvRf_0_10, pvRf_1_0, pvRf_3_0, pvRf_5_0, pvRf_5_1, pvRf_5_2, pvRf_9_0, pvRf_9_1, pvRf_9_2, pvRf_13_0, pvRf_13_1, pvRf_13_2, pvRf_17_0, pvRf_17_2, pvRf_20_0, pvRf_20_1, pvRf_20_2, pvRf_24_0, pvRf_24_1, pvRf_24_2, pvRf_28_0, pvRf_28_1, pvRf_28_2, pvRf_28_3, pvRf_33_0, pvRf_33_1, pvRf_36_0, pvRf_36_1, pvRf_39_0, pvRf_39_1, pvRf_39_2, pvRf_39_5, pvRf_39_6, pvRf_39_9, pvRf_39_13, pvRf_39_15, pvRf_39_16, pvRf_39_17, pvRf_39_19, pvRf_39_20, pvRf_39_22, pvRf_39_23, pvRf_39_24, pvRf_39_25, pvRf_39_29, pvRf_39_30, fX10_98, pvE_icmp_ge, fX10_25, pvE_iaload, pvAI, pvE_goto, pvE_iconst, pvE_ireturn, bX10_here_0, uX10_here_0, bX10_here_23, uX10_here_23, bX10_here_24, uX10_here_24, pvRecv_r, pvUp_nl, pvUp_same, pvUp_ap, pvSt_ap, pvX_c, pvX_ms, pvX_mn, pvE_nil, pvEn_i, pvEn_r, pvEn_l, pvEn_0, pvEn_s, pvRt, pvRv, pvTh, pvKc, pvGo, pvTgt, Int.toNat_natCast, false_and, and_false, true_and, and_true, if_true, if_false, reduceIte, reduceCtorEq, forall_const, false_or, or_false, true_or, or_true, ne_eq, not_true_eq_false, not_false_eq_true, implies_true, false_implies, Nat.reduceAdd, Nat.reduceSub, Nat.reduceMul, Nat.reduceEqDiff, Nat.reduceLT, Nat.reduceLeDiff, Int.reduceAdd, Int.reduceSub, Int.reduceMul, Int.reduceNeg, Int.reduceToNat, Int.reduceLE, Int.reduceLT, Int.reduceEq, Int.reduceNe, and_self]
     grind)
  · exact h.elim
def C_X10_skips : pvC
  | [.inr (.inr (.inl id)), .inl c], z, Q => id = 39 ∧ (0 ≤ z.1 39 11 ∧ z.1 39 11 ≤ 30 ∧ z.1 39 10 ≤ 30) ∧ 0 ≤ c ∧ (z.1 39 11 < z.1 39 10 → z.1 45 (z.1 39 11).toNat = c → Q (.inl (some (vI 1))) (pvUp z.1 39 11 (z.1 39 11 + 1), z.2)) ∧ (z.1 39 11 < z.1 39 10 → z.1 45 (z.1 39 11).toNat ≠ c → Q (.inl (some (vI 0))) z) ∧ (¬ z.1 39 11 < z.1 39 10 → Q (.inl (some (vI 0))) z)
  | _, _, _ => False
def bX10_skips : Nat → List (Instr × Nat)
  | 0 => [(.aload_n 0, 1), (.invokevirtual 104, 3), (.iload_n 1, 1), (.if_icmp .eq 5, 3), (.iconst 0, 1), (.ireturn, 1)]
  | 10 => [(.aload_n 0, 1), (.dup, 1), (.getfield 101, 3), (.iconst 1, 1), (.iadd, 1), (.putfield 101, 3), (.iconst 1, 1), (.ireturn, 1)]
  | _ => []
def uX10_skips : Nat → Option (List Bool)
  | _ => none
def aX10_skips : pvCa
  | 104 => some (1, false, 9, 0, C_X10_here)
  | _ => none
theorem bX10_skips_0 : bX10_skips 0 = [(.aload_n 0, 1), (.invokevirtual 104, 3), (.iload_n 1, 1), (.if_icmp .eq 5, 3), (.iconst 0, 1), (.ireturn, 1)] := rfl
theorem uX10_skips_0 : uX10_skips 0 = none := rfl
theorem bX10_skips_10 : bX10_skips 10 = [(.aload_n 0, 1), (.dup, 1), (.getfield 101, 3), (.iconst 1, 1), (.iadd, 1), (.putfield 101, 3), (.iconst 1, 1), (.ireturn, 1)] := rfl
theorem uX10_skips_10 : uX10_skips 10 = none := rfl
theorem aX10_skips_104 : aX10_skips 104 = some (1, false, 9, 0, C_X10_here) := rfl
def mX10_skips : Room := { frames := 1, cells := 1, slots := 6, locals := 20 }
set_option maxRecDepth 100000 in
set_option maxHeartbeats 4000000 in
theorem okX10_skips : pvOkM fX10 aX10_skips kX10 eX10 (some .boolean) bX10_skips uX10_skips 2 C_X10_skips := by
  intro Q SW hc as z h hS hz
  unfold C_X10_skips at h
  split at h
  · rename_i id c
    obtain ⟨hid, h⟩ := h
    refine ⟨Nat.le_of_ble_eq_true rfl, hc 20 _ _ _ fun _ _ => ?_⟩
    clear hc hS
    subst hid
    (simp only [pvSt1]
     simp only [C_X10_here, pvE_aload_n0, pvLA_s, pvLd, pvE_invokevirtual, pvC1_s, pvC2_s, pvAf_v, pvAf_x, pvPop, pvCs, pvCat, pvPush, aX10_skips_104, pvSh_0, pvSh_1, pvSh_2, pvSh_3, pvSh_4, pvSh_5, pvSh_6, pvSh_7, pvSh_8, pvSh_9, pvSh_10, pvSh_11, pvSh_12, pvSh_13, pvSh_14, pvSh_15, pvSh_16, pvSh_17, pvSh_18, pvSh_19, pvSh_20, pvSh_21, pvSh_22, pvSh_23, pvSh_24, pvSh_25, pvSh_26, pvSh_27, pvSh_28, pvSh_29, pvSh_30, pvSh_31, pvSh_32, pvSh_33, pvSh_34, pvSh_35, pvSh_36, pvSh_37, pvSh_38, pvSh_39, pvSh_40, pvSh_41, pvSh_42, pvSh_43, pvSh_44, pvSh_45, pvSh_46, pvSh_47, pvSh_48, pvSh_49, pvSh_50, pvSh_51, pvSh_52, pvSh_53, pvSh_54, pvSh_55, pvSh_56, pvSh_57, pvSh_58, pvSh_59, pvE_iload_n1, pvLI_s, pvE_icmp_eq, pvE_iconst, pvE_ireturn, pvE_dup_i, pvE_dup_r, pvE_getfield, pvGf_0, pvGf_1, pvGf_2, fX10_101, pvRf_0_0, pvRf_0_1, pvRf_0_2, pvRf_0_3, pvRf_0_4, pvRf_0_5, pvRf_0_6, pvRf_0_7, pvRf_0_8, pvRf_0_9, pvRf_0_10, pvRf_1_0, pvRf_3_0, pvRf_5_0, pvRf_5_1, pvRf_5_2, pvRf_9_0, pvRf_9_1, pvRf_9_2, pvRf_13_0, pvRf_13_1, pvRf_13_2, pvRf_17_0, pvRf_17_2, pvRf_20_0, pvRf_20_1, pvRf_20_2, pvRf_24_0, pvRf_24_1, pvRf_24_2, pvRf_28_0, pvRf_28_1, pvRf_28_2, pvRf_28_3, pvRf_33_0, pvRf_33_1, pvRf_36_0, pvRf_36_1, pvRf_39_0, pvRf_39_1, pvRf_39_2, pvRf_39_5, pvRf_39_6, pvRf_39_9, pvRf_39_13, pvRf_39_15, pvRf_39_16, pvRf_39_17, pvRf_39_19, pvRf_39_20, pvRf_39_22, pvRf_39_23, pvRf_39_24, pvRf_39_25, pvRf_39_29, pvRf_39_30, pvE_iadd, pvE_putfield, pvPf_0, pvPf_1, bX10_skips_0, uX10_skips_0, bX10_skips_10, uX10_skips_10, pvRecv_r, pvUp_nl, pvUp_same, pvUp_ap, pvSt_ap, pvX_c, pvX_ms, pvX_mn, pvE_nil, pvEn_i, pvEn_r, pvEn_l, pvEn_0, pvEn_s, pvRt, pvRv, pvTh, pvKc, pvGo, pvTgt, Int.toNat_natCast, false_and, and_false, true_and, and_true, if_true, if_false, reduceIte, reduceCtorEq, forall_const, false_or, or_false, true_or, or_true, ne_eq, not_true_eq_false, not_false_eq_true, implies_true, false_implies, Nat.reduceAdd, Nat.reduceSub, Nat.reduceMul, Nat.reduceEqDiff, Nat.reduceLT, Nat.reduceLeDiff, Int.reduceAdd, Int.reduceSub, Int.reduceMul, Int.reduceNeg, Int.reduceToNat, Int.reduceLE, Int.reduceLT, Int.reduceEq, Int.reduceNe, and_self]
     grind)
  · exact h.elim
def C_X10_appendCharacter : pvC
  | [.inr (.inr (.inl id)), .inl c], z, Q => id = 39 ∧ (0 ≤ z.1 39 10 ∧ z.1 39 10 ≤ 30) ∧
      (¬ (33 ≤ c ∧ c ≤ 126) → Q (.inl (some (vI 0))) (pvUp z.1 39 8 1, z.2)) ∧
      (33 ≤ c ∧ c ≤ 126 → z.1 39 10 = 30 → Q (.inl (some (vI 0))) (pvUp z.1 39 8 2, z.2)) ∧
      (33 ≤ c ∧ c ≤ 126 → z.1 39 10 ≠ 30 → Q (.inl (some (vI (z.1 39 10 + 1)))) (pvUp (pvUp (pvUp z.1 39 8 0) 45 (z.1 39 10).toNat c) 39 10 (z.1 39 10 + 1), z.2))
  | _, _, _ => False
def bX10_appendCharacter : Nat → List (Instr × Nat)
  | 0 => [(.aload_n 0, 1), (.iconst 0, 1), (.putfield 73, 3), (.iload_n 1, 1), (.bipush 33, 2), (.bipush 126, 2), (.invokestatic 76, 3), (.ifCond .ne 9, 3), (.aload_n 0, 1), (.iconst 1, 1), (.invokevirtual 87, 3), (.ireturn, 1)]
  | 22 => [(.aload_n 0, 1), (.getfield 98, 3), (.bipush 30, 2), (.if_icmp .ne 9, 3), (.aload_n 0, 1), (.iconst 2, 1), (.invokevirtual 87, 3), (.ireturn, 1)]
  | 37 => [(.aload_n 0, 1), (.getfield 25, 3), (.aload_n 0, 1), (.getfield 98, 3), (.iload_n 1, 1), (.iastore, 1), (.aload_n 0, 1), (.dup, 1), (.getfield 98, 3), (.iconst 1, 1), (.iadd, 1), (.putfield 98, 3), (.aload_n 0, 1), (.getfield 98, 3), (.ireturn, 1)]
  | _ => []
def uX10_appendCharacter : Nat → Option (List Bool)
  | _ => none
def aX10_appendCharacter : pvCa
  | 76 => some (3, true, 0, 0, C_X10_in)
  | 87 => some (2, false, 9, 0, C_X10_fails)
  | _ => none
theorem bX10_appendCharacter_0 : bX10_appendCharacter 0 = [(.aload_n 0, 1), (.iconst 0, 1), (.putfield 73, 3), (.iload_n 1, 1), (.bipush 33, 2), (.bipush 126, 2), (.invokestatic 76, 3), (.ifCond .ne 9, 3), (.aload_n 0, 1), (.iconst 1, 1), (.invokevirtual 87, 3), (.ireturn, 1)] := rfl
theorem uX10_appendCharacter_0 : uX10_appendCharacter 0 = none := rfl
theorem bX10_appendCharacter_22 : bX10_appendCharacter 22 = [(.aload_n 0, 1), (.getfield 98, 3), (.bipush 30, 2), (.if_icmp .ne 9, 3), (.aload_n 0, 1), (.iconst 2, 1), (.invokevirtual 87, 3), (.ireturn, 1)] := rfl
theorem uX10_appendCharacter_22 : uX10_appendCharacter 22 = none := rfl
theorem bX10_appendCharacter_37 : bX10_appendCharacter 37 = [(.aload_n 0, 1), (.getfield 25, 3), (.aload_n 0, 1), (.getfield 98, 3), (.iload_n 1, 1), (.iastore, 1), (.aload_n 0, 1), (.dup, 1), (.getfield 98, 3), (.iconst 1, 1), (.iadd, 1), (.putfield 98, 3), (.aload_n 0, 1), (.getfield 98, 3), (.ireturn, 1)] := rfl
theorem uX10_appendCharacter_37 : uX10_appendCharacter 37 = none := rfl
theorem aX10_appendCharacter_76 : aX10_appendCharacter 76 = some (3, true, 0, 0, C_X10_in) := rfl
theorem aX10_appendCharacter_87 : aX10_appendCharacter 87 = some (2, false, 9, 0, C_X10_fails) := rfl
def mX10_appendCharacter : Room := { frames := 1, cells := 1, slots := 6, locals := 22 }
set_option maxRecDepth 100000 in
set_option maxHeartbeats 4000000 in
theorem okX10_appendCharacter : pvOkM fX10 aX10_appendCharacter kX10 eX10 (some .int) bX10_appendCharacter uX10_appendCharacter 2 C_X10_appendCharacter := by
  intro Q SW hc as z h hS hz
  unfold C_X10_appendCharacter at h
  split at h
  · rename_i id c
    obtain ⟨hid, h⟩ := h
    refine ⟨Nat.le_of_ble_eq_true rfl, hc 20 _ _ _ fun _ _ => ?_⟩
    clear hc hS
    subst hid
    (simp only [pvSt1]
     simp only [C_X10_in, C_X10_fails, pvE_aload_n0, pvLA_s, pvLd, pvE_iconst, pvE_putfield, pvPf_0, pvPf_1, fX10_73, pvSh_0, pvSh_1, pvSh_2, pvSh_3, pvSh_4, pvSh_5, pvSh_6, pvSh_7, pvSh_8, pvSh_9, pvSh_10, pvSh_11, pvSh_12, pvSh_13, pvSh_14, pvSh_15, pvSh_16, pvSh_17, pvSh_18, pvSh_19, pvSh_20, pvSh_21, pvSh_22, pvSh_23, pvSh_24, pvSh_25, pvSh_26, pvSh_27, pvSh_28, pvSh_29, pvSh_30, pvSh_31, pvSh_32, pvSh_33, pvSh_34, pvSh_35, pvSh_36, pvSh_37, pvSh_38, pvSh_39, pvSh_40, pvSh_41, pvSh_42, pvSh_43, pvSh_44, pvSh_45, pvSh_46, pvSh_47, pvSh_48, pvSh_49, pvSh_50, pvSh_51, pvSh_52, pvSh_53, pvSh_54, pvSh_55, pvSh_56, pvSh_57, pvSh_58, pvSh_59, pvE_iload_n1, pvLI_s, pvE_bipush, pvE_invokestatic (h0 := eX10_76), pvC1_s, pvC2_s, pvAf_v, pvAf_x, pvPop, pvCs, pvCat, pvPush, aX10_appendCharacter_76, pvE_if_ne, pvE_invokevirtual, aX10_appendCharacter_87, pvE_ireturn, pvE_getfield, pvGf_0, pvGf_1, pvGf_2, fX10_98, pvRf_0_0, pvRf_0_1, pvRf_0_2, pvRf_0_3, pvRf_0_4, pvRf_0_5, pvRf_0_6, pvRf_0_7, pvRf_0_8, pvRf_0_9, pvRf_0_10, pvRf_1_0, pvRf_3_0, pvRf_5_0, pvRf_5_1, pvRf_5_2, pvRf_9_0, pvRf_9_1, pvRf_9_2, pvRf_13_0, pvRf_13_1, pvRf_13_2, pvRf_17_0, pvRf_17_2, pvRf_20_0, pvRf_20_1, pvRf_20_2, pvRf_24_0, pvRf_24_1, pvRf_24_2, pvRf_28_0, pvRf_28_1, pvRf_28_2, pvRf_28_3, pvRf_33_0, pvRf_33_1, pvRf_36_0, pvRf_36_1, pvRf_39_0, pvRf_39_1, pvRf_39_2, pvRf_39_5, pvRf_39_6, pvRf_39_9, pvRf_39_13, pvRf_39_15, pvRf_39_16, pvRf_39_17, pvRf_39_19, pvRf_39_20, pvRf_39_22, pvRf_39_23, pvRf_39_24, pvRf_39_25, pvRf_39_29, pvRf_39_30, pvE_icmp_ne, fX10_25, pvE_iastore, pvAI, pvE_dup_i, pvE_dup_r, pvE_iadd, bX10_appendCharacter_0, uX10_appendCharacter_0, bX10_appendCharacter_22, uX10_appendCharacter_22, bX10_appendCharacter_37, uX10_appendCharacter_37, pvRecv_r, pvUp_nl, pvUp_same, pvUp_ap, pvSt_ap, pvX_c, pvX_ms, pvX_mn, pvE_nil, pvEn_i, pvEn_r, pvEn_l, pvEn_0, pvEn_s, pvRt, pvRv, pvTh, pvKc, pvGo, pvTgt, Int.toNat_natCast, false_and, and_false, true_and, and_true, if_true, if_false, reduceIte, reduceCtorEq, forall_const, false_or, or_false, true_or, or_true, ne_eq, not_true_eq_false, not_false_eq_true, implies_true, false_implies, Nat.reduceAdd, Nat.reduceSub, Nat.reduceMul, Nat.reduceEqDiff, Nat.reduceLT, Nat.reduceLeDiff, Int.reduceAdd, Int.reduceSub, Int.reduceMul, Int.reduceNeg, Int.reduceToNat, Int.reduceLE, Int.reduceLT, Int.reduceEq, Int.reduceNe, and_self]
     grind)
  · exact h.elim
