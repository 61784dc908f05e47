def C_X9_isIndex : pvC
  | [.inl i, .inl n], z, Q => (0 ≤ i ∧ i < n → Q (.inl (some (vI 1))) z) ∧ (¬ (0 ≤ i ∧ i < n) → Q (.inl (some (vI 0))) z)
  | _, _, _ => False
def bX9_isIndex : Nat → List (Instr × Nat)
  | 0 => [(.iload_n 0, 1), (.ifCond .lt 12, 3), (.iload_n 0, 1), (.iload_n 1, 1), (.if_icmp .ge 7, 3), (.iconst 1, 1), (.goto 4, 3)]
  | 13 => [(.iconst 0, 1)]
  | 14 => [(.ireturn, 1)]
  | _ => []
def uX9_isIndex : Nat → Option (List Bool)
  | _ => none
def aX9_isIndex : pvCa
  | _ => none
theorem bX9_isIndex_0 : bX9_isIndex 0 = [(.iload_n 0, 1), (.ifCond .lt 12, 3), (.iload_n 0, 1), (.iload_n 1, 1), (.if_icmp .ge 7, 3), (.iconst 1, 1), (.goto 4, 3)] := rfl
theorem uX9_isIndex_0 : uX9_isIndex 0 = none := rfl
theorem bX9_isIndex_13 : bX9_isIndex 13 = [(.iconst 0, 1)] := rfl
theorem uX9_isIndex_13 : uX9_isIndex 13 = none := rfl
theorem bX9_isIndex_14 : bX9_isIndex 14 = [(.ireturn, 1)] := rfl
theorem uX9_isIndex_14 : uX9_isIndex 14 = none := rfl
def mX9_isIndex : Room := { frames := 0, cells := 1, slots := 6, locals := 0 }
theorem okX9_isIndex : pvOkM fX9 aX9_isIndex kX9 eX9 (some .boolean) bX9_isIndex uX9_isIndex 2 C_X9_isIndex := by
  intro Q SW hc as z h hS hz
  unfold C_X9_isIndex at h
  split at h
  · rename_i i n
    refine ⟨Nat.le_of_ble_eq_true rfl, hc 20 _ _ _ fun _ _ => ?_⟩
    clear hc hS
    simp only [pvSt1]
    simp only [pvE_iload_n0, pvB_ld_s, pvLd, pvE_if_lt, pvE_iload_n1, pvE_icmp_ge, pvE_iconst, pvE_goto, pvE_ireturn, bX9_isIndex_0, uX9_isIndex_0, bX9_isIndex_13, uX9_isIndex_13, bX9_isIndex_14, uX9_isIndex_14, pvX_c, pvX_ms, pvX_mn, pvE_nil, pvEn_i, pvEn_r, pvEn_l, pvEn_0, pvEn_s, pvRt, pvRv, pvTh, pvKc, pvGo, pvTgt, true_and, and_true, if_true, if_false, reduceIte, reduceCtorEq, forall_const, false_or, or_false, true_or, or_true, not_true_eq_false, not_false_eq_true, implies_true, false_implies, Nat.reduceAdd, Nat.reduceSub, Nat.reduceMul, Nat.reduceEqDiff, Nat.reduceLT, Nat.reduceLeDiff, Int.reduceAdd, Int.reduceSub, Int.reduceMul, Int.reduceNeg, Int.reduceToNat, Int.reduceLE, Int.reduceLT, Int.reduceEq, Int.reduceNe, and_self]
    grind
  · exact h.elim
def C_X10_at : pvC
  | [.inl s, .inl t], z, Q => (0 ≤ s ∧ s ≤ 1 ∧ 0 ≤ t ∧ t ≤ 10) ∧ Q (.inl (some (vI (163 * s + 3 + 16 * t)))) z
  | _, _, _ => False
def bX10_at : Nat → List (Instr × Nat)
  | 0 => [(.sipush 163, 3), (.iload_n 0, 1), (.imul, 1), (.iconst 3, 1), (.iadd, 1), (.bipush 16, 2), (.iload_n 1, 1), (.imul, 1), (.iadd, 1), (.ireturn, 1)]
  | _ => []
def uX10_at : Nat → Option (List Bool)
  | _ => none
def aX10_at : pvCa
  | _ => none
theorem bX10_at_0 : bX10_at 0 = [(.sipush 163, 3), (.iload_n 0, 1), (.imul, 1), (.iconst 3, 1), (.iadd, 1), (.bipush 16, 2), (.iload_n 1, 1), (.imul, 1), (.iadd, 1), (.ireturn, 1)] := rfl
theorem uX10_at_0 : uX10_at 0 = none := rfl
def mX10_at : Room := { frames := 0, cells := 1, slots := 6, locals := 0 }
theorem okX10_at : pvOkM fX10 aX10_at kX10 eX10 (some .int) bX10_at uX10_at 2 C_X10_at := by
  intro Q SW hc as z h hS hz
  unfold C_X10_at at h
  split at h
  · rename_i s t
    refine ⟨Nat.le_of_ble_eq_true rfl, hc 20 _ _ _ fun _ _ => ?_⟩
    clear hc hS
    simp only [pvSt1]
    simp only [pvE_sipush, pvE_iload_n0, pvB_ld_s, pvLd, pvE_imul, pvE_iconst, pvE_iadd, pvE_bipush, pvE_iload_n1, pvE_ireturn, bX10_at_0, uX10_at_0, pvX_c, pvX_ms, pvX_mn, pvE_nil, pvEn_i, pvEn_r, pvEn_l, pvEn_0, pvEn_s, pvRt, pvRv, pvTh, pvKc, pvGo, pvTgt, true_and, and_true, if_true, if_false, reduceIte, reduceCtorEq, forall_const, false_or, or_false, true_or, or_true, not_true_eq_false, not_false_eq_true, implies_true, false_implies, Nat.reduceAdd, Nat.reduceSub, Nat.reduceMul, Nat.reduceEqDiff, Nat.reduceLT, Nat.reduceLeDiff, Int.reduceAdd, Int.reduceSub, Int.reduceMul, Int.reduceNeg, Int.reduceToNat, Int.reduceLE, Int.reduceLT, Int.reduceEq, Int.reduceNe, and_self]
    grind
  · exact h.elim
def C_X0_cell : pvC
  | [.inr (.inr (.inl id)), .inl t, .inl c], z, Q => (id = 1 ∨ id = 3) ∧ (0 ≤ t ∧ t ≤ 9 ∧ 0 ≤ c ∧ c ≤ 16) ∧ Q (.inl (some (vI (z.1 (id + 1) (3 + 17 * t + c).toNat)))) z
  | _, _, _ => False
def bX0_cell : Nat → List (Instr × Nat)
  | 0 => [(.iconst 3, 1), (.bipush 17, 2), (.iload_n 1, 1), (.imul, 1), (.iadd, 1), (.iload_n 2, 1), (.iadd, 1), (.istore_n 3, 1), (.iload_n 3, 1), (.sipush 173, 3), (.invokestatic 15, 3), (.ifCond .eq 12, 3), (.aload_n 0, 1), (.getfield 11, 3), (.iload_n 3, 1), (.iaload, 1), (.goto 4, 3)]
  | 28 => [(.iconst 0, 1)]
  | 29 => [(.ireturn, 1)]
  | _ => []
def uX0_cell : Nat → Option (List Bool)
  | _ => none
def aX0_cell : pvCa
  | 15 => some (2, true, 0, 0, C_X9_isIndex)
  | _ => none
theorem bX0_cell_0 : bX0_cell 0 = [(.iconst 3, 1), (.bipush 17, 2), (.iload_n 1, 1), (.imul, 1), (.iadd, 1), (.iload_n 2, 1), (.iadd, 1), (.istore_n 3, 1), (.iload_n 3, 1), (.sipush 173, 3), (.invokestatic 15, 3), (.ifCond .eq 12, 3), (.aload_n 0, 1), (.getfield 11, 3), (.iload_n 3, 1), (.iaload, 1), (.goto 4, 3)] := rfl
theorem uX0_cell_0 : uX0_cell 0 = none := rfl
theorem bX0_cell_28 : bX0_cell 28 = [(.iconst 0, 1)] := rfl
theorem uX0_cell_28 : uX0_cell 28 = none := rfl
theorem bX0_cell_29 : bX0_cell 29 = [(.ireturn, 1)] := rfl
theorem uX0_cell_29 : uX0_cell 29 = none := rfl
theorem aX0_cell_15 : aX0_cell 15 = some (2, true, 0, 0, C_X9_isIndex) := rfl
def mX0_cell : Room := { frames := 1, cells := 1, slots := 6, locals := 21 }
theorem okX0_cell : pvOkM fX0 aX0_cell kX0 eX0 (some .int) bX0_cell uX0_cell 4 C_X0_cell := by
  intro Q SW hc as z h hS hz
  unfold C_X0_cell at h
  split at h
  · rename_i id t c
    obtain ⟨hid, h⟩ := h
    refine ⟨Nat.le_of_ble_eq_true rfl, hc 20 _ _ _ fun _ _ => ?_⟩
    clear hc hS
    rcases hid with rfl | rfl <;>
    (simp only [pvSt1]
     simp only [C_X9_isIndex, pvE_iconst, pvE_bipush, pvE_iload_n1, pvB_ld_s, pvLd, pvE_imul, pvE_iadd, pvE_iload_n2, pvE_istore_n3, pvS1, List.length_cons, List.length_nil, pvClr_i, pvClr_r, pvClr_l, pvClr_d, pvClr_f, pvClr_n, pvE_iload_n3, pvE_sipush, pvE_invokestatic (h0 := eX0_15), pvCall, pvPop, pvCs, pvCat, pvPush, pvKk, aX0_cell_15, pvE_if_eq, pvE_aload_n0, pvE_getfield, pvGf_0, pvGf_1, pvGf_2, fX0_11, pvSh_0, pvSh_1, pvSh_2, pvSh_3, pvSh_4, pvSh_5, pvSh_6, pvSh_7, pvSh_8, pvSh_9, pvSh_10, pvSh_11, pvSh_12, pvSh_13, pvSh_14, pvSh_15, pvSh_16, pvSh_17, pvSh_18, pvSh_19, pvSh_20, pvSh_21, pvSh_22, pvSh_23, pvSh_24, pvSh_25, pvSh_26, pvSh_27, pvSh_28, pvSh_29, pvSh_30, pvSh_31, pvSh_32, pvSh_33, pvSh_34, pvSh_35, pvSh_36, pvSh_37, pvSh_38, pvSh_39, pvSh_40, pvSh_41, pvSh_42, pvSh_43, pvSh_44, pvSh_45, pvSh_46, pvSh_47, pvSh_48, pvSh_49, pvSh_50, pvSh_51, pvSh_52, pvSh_53, pvSh_54, pvSh_55, pvSh_56, pvSh_57, pvSh_58, pvSh_59, pvRf_0_0, pvRf_0_1, pvRf_0_2, pvRf_0_3, pvRf_0_4, pvRf_0_5, pvRf_0_6, pvRf_0_7, pvRf_0_8, pvRf_0_9, pvRf_0_10, pvRf_1_0, pvRf_3_0, pvRf_5_0, pvRf_5_1, pvRf_5_2, pvRf_9_0, pvRf_9_1, pvRf_9_2, pvRf_13_0, pvRf_13_1, pvRf_13_2, pvRf_17_0, pvRf_17_2, pvRf_20_0, pvRf_20_1, pvRf_20_2, pvRf_24_0, pvRf_24_1, pvRf_24_2, pvRf_28_0, pvRf_28_1, pvRf_28_2, pvRf_28_3, pvRf_33_0, pvRf_33_1, pvRf_36_0, pvRf_36_1, pvRf_39_0, pvRf_39_1, pvRf_39_2, pvRf_39_5, pvRf_39_6, pvRf_39_9, pvRf_39_13, pvRf_39_15, pvRf_39_16, pvRf_39_17, pvRf_39_19, pvRf_39_20, pvRf_39_22, pvRf_39_23, pvRf_39_24, pvRf_39_25, pvRf_39_29, pvRf_39_30, pvE_iaload, pvAI, pvE_goto, pvE_ireturn, bX0_cell_0, uX0_cell_0, bX0_cell_28, uX0_cell_28, bX0_cell_29, uX0_cell_29, pvX_c, pvX_ms, pvX_mn, pvE_nil, pvEn_i, pvEn_r, pvEn_l, pvEn_0, pvEn_s, pvRt, pvRv, pvTh, pvKc, pvGo, pvTgt, true_and, and_true, if_true, if_false, reduceIte, reduceCtorEq, forall_const, false_or, or_false, true_or, or_true, not_true_eq_false, not_false_eq_true, implies_true, false_implies, Nat.reduceAdd, Nat.reduceSub, Nat.reduceMul, Nat.reduceEqDiff, Nat.reduceLT, Nat.reduceLeDiff, Int.reduceAdd, Int.reduceSub, Int.reduceMul, Int.reduceNeg, Int.reduceToNat, Int.reduceLE, Int.reduceLT, Int.reduceEq, Int.reduceNe, and_self]
     grind)
  · exact h.elim
