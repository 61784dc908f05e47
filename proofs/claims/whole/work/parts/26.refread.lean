/-! the reference: reading transitions, acceptance, where a word gets stuck -/
def svK (T : Nat → Int) : Nat → Int
  | 0 => 0
  | k + 1 => svK T k + (if blF T k < 0 then 1 else 0)
theorem svK_r (T : Nat → Int) (k : Nat) : 0 ≤ svK T k ∧ svK T k ≤ k := by
  induction k with
  | zero => exact ⟨Int.le_refl 0, Int.le_refl 0⟩
  | succ k ih =>
    simp only [svK]
    split <;> omega
def stK (A : Aut) (d l : Nat → Int) : Nat → Nat → Int
  | 0, _ => -1
  | m + 1, k => if afK A d l (k + 1) = 0 then k else stK A d l m (k + 1)
def C_X10_accepts : pvC
  | [.inr (.inr (.inl id)), .inl s], z, Q => id = 39 ∧ ((0 ≤ s ∧ s ≤ 1 → WfA (autR (z.1 40) s)) ∧ WdF (z.1 39 7) (z.1 43) (z.1 44)) ∧
      (¬ (0 ≤ s ∧ s ≤ 1) → Q (.inl (some (vI 0))) (pvUp z.1 39 8 1, z.2)) ∧
      (0 ≤ s ∧ s ≤ 1 → pvAnd (afK (autR (z.1 40) s) (z.1 43) (z.1 44) (z.1 39 7).toNat) (autR (z.1 40) s).2.2.1 ≠ 0 → Q (.inl (some (vI 1))) (pvUp z.1 39 8 0, z.2)) ∧
      (0 ≤ s ∧ s ≤ 1 → pvAnd (afK (autR (z.1 40) s) (z.1 43) (z.1 44) (z.1 39 7).toNat) (autR (z.1 40) s).2.2.1 = 0 → Q (.inl (some (vI 0))) (pvUp z.1 39 8 0, z.2))
  | _, _, _ => False
def bX10_accepts : Nat → List (Instr × Nat)
  | 0 => [(.aload_n 0, 1), (.iload_n 1, 1), (.invokestatic 80, 3), (.ifCond .eq 7, 3), (.iconst 0, 1), (.goto 4, 3)]
  | 12 => [(.iconst 1, 1)]
  | 13 => [(.putfield 73, 3), (.aload_n 0, 1), (.getfield 73, 3), (.ifCond .ne 32, 3), (.aload_n 0, 1), (.iload_n 1, 1), (.aload_n 0, 1), (.getfield 158, 3), (.invokevirtual 184, 3), (.aload_n 0, 1), (.getfield 7, 3), (.sipush 163, 3), (.iload_n 1, 1), (.imul, 1), (.iconst 1, 1), (.iadd, 1), (.iaload, 1), (.iand, 1), (.ifCond .eq 7, 3), (.iconst 1, 1), (.goto 4, 3)]
  | 52 => [(.iconst 0, 1)]
  | 53 => [(.ireturn, 1)]
  | _ => []
def uX10_accepts : Nat → Option (List Bool)
  | _ => none
def aX10_accepts : pvCa
  | 80 => some (1, true, 0, 0, C_X10_isSlot)
  | 184 => some (3, false, 9, 0, C_X10_after)
  | _ => none
theorem bX10_accepts_0 : bX10_accepts 0 = [(.aload_n 0, 1), (.iload_n 1, 1), (.invokestatic 80, 3), (.ifCond .eq 7, 3), (.iconst 0, 1), (.goto 4, 3)] := rfl
theorem uX10_accepts_0 : uX10_accepts 0 = none := rfl
theorem bX10_accepts_12 : bX10_accepts 12 = [(.iconst 1, 1)] := rfl
theorem uX10_accepts_12 : uX10_accepts 12 = none := rfl
theorem bX10_accepts_13 : bX10_accepts 13 = [(.putfield 73, 3), (.aload_n 0, 1), (.getfield 73, 3), (.ifCond .ne 32, 3), (.aload_n 0, 1), (.iload_n 1, 1), (.aload_n 0, 1), (.getfield 158, 3), (.invokevirtual 184, 3), (.aload_n 0, 1), (.getfield 7, 3), (.sipush 163, 3), (.iload_n 1, 1), (.imul, 1), (.iconst 1, 1), (.iadd, 1), (.iaload, 1), (.iand, 1), (.ifCond .eq 7, 3), (.iconst 1, 1), (.goto 4, 3)] := rfl
theorem uX10_accepts_13 : uX10_accepts 13 = none := rfl
theorem bX10_accepts_52 : bX10_accepts 52 = [(.iconst 0, 1)] := rfl
theorem uX10_accepts_52 : uX10_accepts 52 = none := rfl
theorem bX10_accepts_53 : bX10_accepts 53 = [(.ireturn, 1)] := rfl
theorem uX10_accepts_53 : uX10_accepts 53 = none := rfl
theorem aX10_accepts_80 : aX10_accepts 80 = some (1, true, 0, 0, C_X10_isSlot) := rfl
theorem aX10_accepts_184 : aX10_accepts 184 = some (3, false, 9, 0, C_X10_after) := rfl
def mX10_accepts : Room := { frames := 5, cells := 1, slots := 6, locals := 123 }
set_option maxRecDepth 100000 in
set_option maxHeartbeats 4000000 in
theorem okX10_accepts : pvOkM fX10 aX10_accepts kX10 eX10 (some .boolean) bX10_accepts uX10_accepts 2 C_X10_accepts := by
  intro Q SW hc as z h hS hz
  unfold C_X10_accepts at h
  split at h
  · rename_i id s
    obtain ⟨rfl, ⟨hw, hd⟩, h1, h2, h3⟩ := h
    have hd1 := hd.1
    have gf : 0 ≤ s → z.1 40 (163 * s + 1).toNat = (autR (z.1 40) s).2.2.1 := fun h => rS_f h rfl
    refine ⟨Nat.le_of_ble_eq_true rfl, hc 20 _ _ _ fun _ _ => ?_⟩
    clear hc hS
    simp only [pvSt1]
    simp only [C_X10_isSlot, C_X10_after, pvE_aload_n0, pvLA_s, pvLd, pvE_iload_n1, pvLI_s, pvE_invokestatic (h0 := eX10_80), pvC1_s, pvC2_s, pvAf_v, pvAf_x, pvPop, pvCs, pvCat, pvPush, aX10_accepts_80, pvE_if_eq, pvE_iconst, pvE_goto, pvE_putfield, pvPf_0, pvPf_1, fX10_73, pvSh_0, pvSh_1, pvSh_2, pvSh_3, pvSh_4, pvSh_5, pvSh_6, pvSh_7, pvSh_8, pvSh_9, pvSh_10, pvSh_11, pvSh_12, pvSh_13, pvSh_14, pvSh_15, pvSh_16, pvSh_17, pvSh_18, pvSh_19, pvSh_20, pvSh_21, pvSh_22, pvSh_23, pvSh_24, pvSh_25, pvSh_26, pvSh_27, pvSh_28, pvSh_29, pvSh_30, pvSh_31, pvSh_32, pvSh_33, pvSh_34, pvSh_35, pvSh_36, pvSh_37, pvSh_38, pvSh_39, pvSh_40, pvSh_41, pvSh_42, pvSh_43, pvSh_44, pvSh_45, pvSh_46, pvSh_47, pvSh_48, pvSh_49, pvSh_50, pvSh_51, pvSh_52, pvSh_53, pvSh_54, pvSh_55, pvSh_56, pvSh_57, pvSh_58, pvSh_59, pvE_getfield, pvGf_0, pvGf_1, pvGf_2, pvRf_0_0, pvRf_0_1, pvRf_0_2, pvRf_0_3, pvRf_0_4, pvRf_0_5, pvRf_0_6, pvRf_0_7, pvRf_0_8, pvRf_0_9, pvRf_0_10, pvRf_1_0, pvRf_3_0, pvRf_5_0, pvRf_5_1, pvRf_5_2, pvRf_9_0, pvRf_9_1, pvRf_9_2, pvRf_13_0, pvRf_13_1, pvRf_13_2, pvRf_17_0, pvRf_17_2, pvRf_20_0, pvRf_20_1, pvRf_20_2, pvRf_24_0, pvRf_24_1, pvRf_24_2, pvRf_28_0, pvRf_28_1, pvRf_28_2, pvRf_28_3, pvRf_33_0, pvRf_33_1, pvRf_36_0, pvRf_36_1, pvRf_39_0, pvRf_39_1, pvRf_39_2, pvRf_39_5, pvRf_39_6, pvRf_39_9, pvRf_39_13, pvRf_39_15, pvRf_39_16, pvRf_39_17, pvRf_39_19, pvRf_39_20, pvRf_39_22, pvRf_39_23, pvRf_39_24, pvRf_39_25, pvRf_39_29, pvRf_39_30, pvE_if_ne, fX10_158, pvE_invokevirtual, aX10_accepts_184, fX10_7, pvE_sipush, pvE_imul, pvE_iadd, pvE_iaload, pvAI, pvE_iand, pvE_ireturn, bX10_accepts_0, uX10_accepts_0, bX10_accepts_12, uX10_accepts_12, bX10_accepts_13, uX10_accepts_13, bX10_accepts_52, uX10_accepts_52, bX10_accepts_53, uX10_accepts_53, pvRecv_r, pvUp_nl, pvUp_same, pvUp_ap, pvSt_ap, pvX_c, pvX_ms, pvX_mn, pvE_nil, pvEn_i, pvEn_r, pvEn_l, pvEn_0, pvEn_s, pvRt, pvRv, pvTh, pvKc, pvGo, pvTgt, Int.toNat_natCast, false_and, and_false, true_and, and_true, if_true, if_false, reduceIte, reduceCtorEq, forall_const, false_or, or_false, true_or, or_true, ne_eq, not_true_eq_false, not_false_eq_true, implies_true, false_implies, Nat.reduceAdd, Nat.reduceSub, Nat.reduceMul, Nat.reduceEqDiff, Nat.reduceLT, Nat.reduceLeDiff, Int.reduceAdd, Int.reduceSub, Int.reduceMul, Int.reduceNeg, Int.reduceToNat, Int.reduceLE, Int.reduceLT, Int.reduceEq, Int.reduceNe, and_self]
    grind
  · exact h.elim
def C_X10_transitionCount : pvC
  | [.inr (.inr (.inl id)), .inl s], z, Q => id = 39 ∧ (0 ≤ s ∧ s ≤ 1 → Q (.inl (some (vI (autR (z.1 40) s).1))) (pvUp z.1 39 8 0, z.2)) ∧ (¬ (0 ≤ s ∧ s ≤ 1) → Q (.inl (some (vI 0))) (pvUp z.1 39 8 1, z.2))
  | _, _, _ => False
def bX10_transitionCount : Nat → List (Instr × Nat)
  | 0 => [(.aload_n 0, 1), (.iconst 0, 1), (.putfield 73, 3), (.iload_n 1, 1), (.invokestatic 80, 3), (.ifCond .eq 18, 3), (.aload_n 0, 1), (.getfield 7, 3), (.sipush 163, 3), (.iload_n 1, 1), (.imul, 1), (.iconst 2, 1), (.iadd, 1), (.iaload, 1), (.goto 8, 3)]
  | 27 => [(.aload_n 0, 1), (.iconst 1, 1), (.invokevirtual 87, 3)]
  | 32 => [(.ireturn, 1)]
  | _ => []
def uX10_transitionCount : Nat → Option (List Bool)
  | _ => none
def aX10_transitionCount : pvCa
  | 80 => some (1, true, 0, 0, C_X10_isSlot)
  | 87 => some (2, false, 9, 0, C_X10_fails)
  | _ => none
theorem bX10_transitionCount_0 : bX10_transitionCount 0 = [(.aload_n 0, 1), (.iconst 0, 1), (.putfield 73, 3), (.iload_n 1, 1), (.invokestatic 80, 3), (.ifCond .eq 18, 3), (.aload_n 0, 1), (.getfield 7, 3), (.sipush 163, 3), (.iload_n 1, 1), (.imul, 1), (.iconst 2, 1), (.iadd, 1), (.iaload, 1), (.goto 8, 3)] := rfl
theorem uX10_transitionCount_0 : uX10_transitionCount 0 = none := rfl
theorem bX10_transitionCount_27 : bX10_transitionCount 27 = [(.aload_n 0, 1), (.iconst 1, 1), (.invokevirtual 87, 3)] := rfl
theorem uX10_transitionCount_27 : uX10_transitionCount 27 = none := rfl
theorem bX10_transitionCount_32 : bX10_transitionCount 32 = [(.ireturn, 1)] := rfl
theorem uX10_transitionCount_32 : uX10_transitionCount 32 = none := rfl
theorem aX10_transitionCount_80 : aX10_transitionCount 80 = some (1, true, 0, 0, C_X10_isSlot) := rfl
theorem aX10_transitionCount_87 : aX10_transitionCount 87 = some (2, false, 9, 0, C_X10_fails) := rfl
def mX10_transitionCount : Room := { frames := 2, cells := 1, slots := 6, locals := 42 }
set_option maxRecDepth 100000 in
set_option maxHeartbeats 4000000 in
theorem okX10_transitionCount : pvOkM fX10 aX10_transitionCount kX10 eX10 (some .int) bX10_transitionCount uX10_transitionCount 2 C_X10_transitionCount := by
  intro Q SW hc as z h hS hz
  unfold C_X10_transitionCount at h
  split at h
  · rename_i id s
    obtain ⟨rfl, h1, h2⟩ := h
    have gn : 0 ≤ s → z.1 40 (163 * s + 2).toNat = (autR (z.1 40) s).1 := fun h => rS_n h rfl
    refine ⟨Nat.le_of_ble_eq_true rfl, hc 20 _ _ _ fun _ _ => ?_⟩
    clear hc hS
    simp only [pvSt1]
    simp only [C_X10_isSlot, C_X10_fails, pvE_aload_n0, pvLA_s, pvLd, pvE_iconst, pvE_putfield, pvPf_0, pvPf_1, fX10_73, pvSh_0, pvSh_1, pvSh_2, pvSh_3, pvSh_4, pvSh_5, pvSh_6, pvSh_7, pvSh_8, pvSh_9, pvSh_10, pvSh_11, pvSh_12, pvSh_13, pvSh_14, pvSh_15, pvSh_16, pvSh_17, pvSh_18, pvSh_19, pvSh_20, pvSh_21, pvSh_22, pvSh_23, pvSh_24, pvSh_25, pvSh_26, pvSh_27, pvSh_28, pvSh_29, pvSh_30, pvSh_31, pvSh_32, pvSh_33, pvSh_34, pvSh_35, pvSh_36, pvSh_37, pvSh_38, pvSh_39, pvSh_40, pvSh_41, pvSh_42, pvSh_43, pvSh_44, pvSh_45, pvSh_46, pvSh_47, pvSh_48, pvSh_49, pvSh_50, pvSh_51, pvSh_52, pvSh_53, pvSh_54, pvSh_55, pvSh_56, pvSh_57, pvSh_58, pvSh_59, pvE_iload_n1, pvLI_s, pvE_invokestatic (h0 := eX10_80), pvC1_s, pvC2_s, pvAf_v, pvAf_x, pvPop, pvCs, pvCat, pvPush, aX10_transitionCount_80, pvE_if_eq, pvE_getfield, pvGf_0, pvGf_1, pvGf_2, fX10_7, pvRf_0_0, pvRf_0_1, pvRf_0_2, pvRf_0_3, pvRf_0_4, pvRf_0_5, pvRf_0_6, pvRf_0_7, pvRf_0_8, pvRf_0_9, pvRf_0_10, pvRf_1_0, pvRf_3_0, pvRf_5_0, pvRf_5_1, pvRf_5_2, pvRf_9_0, pvRf_9_1, pvRf_9_2, pvRf_13_0, pvRf_13_1, pvRf_13_2, pvRf_17_0, pvRf_17_2, pvRf_20_0, pvRf_20_1, pvRf_20_2, pvRf_24_0, pvRf_24_1, pvRf_24_2, pvRf_28_0, pvRf_28_1, pvRf_28_2, pvRf_28_3, pvRf_33_0, pvRf_33_1, pvRf_36_0, pvRf_36_1, pvRf_39_0, pvRf_39_1, pvRf_39_2, pvRf_39_5, pvRf_39_6, pvRf_39_9, pvRf_39_13, pvRf_39_15, pvRf_39_16, pvRf_39_17, pvRf_39_19, pvRf_39_20, pvRf_39_22, pvRf_39_23, pvRf_39_24, pvRf_39_25, pvRf_39_29, pvRf_39_30, pvE_sipush, pvE_imul, pvE_iadd, pvE_iaload, pvAI, pvE_goto, pvE_invokevirtual, aX10_transitionCount_87, pvE_ireturn, bX10_transitionCount_0, uX10_transitionCount_0, bX10_transitionCount_27, uX10_transitionCount_27, bX10_transitionCount_32, uX10_transitionCount_32, pvRecv_r, pvUp_nl, pvUp_same, pvUp_ap, pvSt_ap, pvX_c, pvX_ms, pvX_mn, pvE_nil, pvEn_i, pvEn_r, pvEn_l, pvEn_0, pvEn_s, pvRt, pvRv, pvTh, pvKc, pvGo, pvTgt, Int.toNat_natCast, false_and, and_false, true_and, and_true, if_true, if_false, reduceIte, reduceCtorEq, forall_const, false_or, or_false, true_or, or_true, ne_eq, not_true_eq_false, not_false_eq_true, implies_true, false_implies, Nat.reduceAdd, Nat.reduceSub, Nat.reduceMul, Nat.reduceEqDiff, Nat.reduceLT, Nat.reduceLeDiff, Int.reduceAdd, Int.reduceSub, Int.reduceMul, Int.reduceNeg, Int.reduceToNat, Int.reduceLE, Int.reduceLT, Int.reduceEq, Int.reduceNe, and_self]
    grind
  · exact h.elim
/-- there is such a transition -/
def trF (A : Int → Aut) (s t : Int) : Prop := (0 ≤ s ∧ s ≤ 1) ∧ 0 ≤ t ∧ t < (A s).1
theorem rc_of {z : pvM} {s : Int} (h : 0 ≤ s) : rcF z s = (autR (z.1 40) s).1 := rS_n h rfl
def C_X10_transition : pvC
  | [.inr (.inr (.inl id)), .inl s, .inl t, .inl c], z, Q => id = 39 ∧ (0 ≤ s ∧ s ≤ 1 → WfA (autR (z.1 40) s)) ∧
      (trF (autR (z.1 40)) s t ∧ 0 ≤ c ∧ c ≤ 3 → Q (.inl (some (vI ((autR (z.1 40) s).2.2.2 t.toNat c.toNat)))) (pvUp z.1 39 8 0, z.2)) ∧ (¬ (trF (autR (z.1 40)) s t ∧ 0 ≤ c ∧ c ≤ 3) → Q (.inl (some (vI 0))) (pvUp z.1 39 8 1, z.2))
  | _, _, _ => False
def bX10_transition : Nat → List (Instr × Nat)
  | 0 => [(.aload_n 0, 1), (.iconst 0, 1), (.putfield 73, 3), (.aload_n 0, 1), (.iload_n 1, 1), (.iload_n 2, 1), (.invokevirtual 134, 3), (.ifCond .eq 27, 3), (.iload_n 3, 1), (.iconst 0, 1), (.iconst 3, 1), (.invokestatic 76, 3), (.ifCond .eq 18, 3), (.aload_n 0, 1), (.getfield 7, 3), (.iload_n 1, 1), (.iload_n 2, 1), (.invokestatic 130, 3), (.iload_n 3, 1), (.iadd, 1), (.iaload, 1), (.goto 8, 3)]
  | 38 => [(.aload_n 0, 1), (.iconst 1, 1), (.invokevirtual 87, 3)]
  | 43 => [(.ireturn, 1)]
  | _ => []
def uX10_transition : Nat → Option (List Bool)
  | _ => none
def aX10_transition : pvCa
  | 76 => some (3, true, 0, 0, C_X10_in)
  | 87 => some (2, false, 9, 0, C_X10_fails)
  | 130 => some (2, true, 0, 0, C_X10_at)
  | 134 => some (3, false, 9, 0, C_X10_isTransition)
  | _ => none
theorem bX10_transition_0 : bX10_transition 0 = [(.aload_n 0, 1), (.iconst 0, 1), (.putfield 73, 3), (.aload_n 0, 1), (.iload_n 1, 1), (.iload_n 2, 1), (.invokevirtual 134, 3), (.ifCond .eq 27, 3), (.iload_n 3, 1), (.iconst 0, 1), (.iconst 3, 1), (.invokestatic 76, 3), (.ifCond .eq 18, 3), (.aload_n 0, 1), (.getfield 7, 3), (.iload_n 1, 1), (.iload_n 2, 1), (.invokestatic 130, 3), (.iload_n 3, 1), (.iadd, 1), (.iaload, 1), (.goto 8, 3)] := rfl
theorem uX10_transition_0 : uX10_transition 0 = none := rfl
theorem bX10_transition_38 : bX10_transition 38 = [(.aload_n 0, 1), (.iconst 1, 1), (.invokevirtual 87, 3)] := rfl
theorem uX10_transition_38 : uX10_transition 38 = none := rfl
theorem bX10_transition_43 : bX10_transition 43 = [(.ireturn, 1)] := rfl
theorem uX10_transition_43 : uX10_transition 43 = none := rfl
theorem aX10_transition_76 : aX10_transition 76 = some (3, true, 0, 0, C_X10_in) := rfl
theorem aX10_transition_87 : aX10_transition 87 = some (2, false, 9, 0, C_X10_fails) := rfl
theorem aX10_transition_130 : aX10_transition 130 = some (2, true, 0, 0, C_X10_at) := rfl
theorem aX10_transition_134 : aX10_transition 134 = some (3, false, 9, 0, C_X10_isTransition) := rfl
def mX10_transition : Room := { frames := 3, cells := 1, slots := 6, locals := 64 }
set_option maxRecDepth 100000 in
set_option maxHeartbeats 4000000 in
theorem okX10_transition : pvOkM fX10 aX10_transition kX10 eX10 (some .int) bX10_transition uX10_transition 4 C_X10_transition := by
  intro Q SW hc as z h hS hz
  unfold C_X10_transition at h
  split at h
  · rename_i id s t c
    obtain ⟨rfl, hw, h1, h2⟩ := h
    refine ⟨Nat.le_of_ble_eq_true rfl, hc 20 _ _ _ fun _ _ => ?_⟩
    clear hc hS
    simp only [pvSt1]
    simp only [C_X10_isTransition, C_X10_in, C_X10_at, C_X10_fails, rcF, pvE_aload_n0, pvLA_s, pvLd, pvE_iconst, pvE_putfield, pvPf_0, pvPf_1, fX10_73, pvSh_0, pvSh_1, pvSh_2, pvSh_3, pvSh_4, pvSh_5, pvSh_6, pvSh_7, pvSh_8, pvSh_9, pvSh_10, pvSh_11, pvSh_12, pvSh_13, pvSh_14, pvSh_15, pvSh_16, pvSh_17, pvSh_18, pvSh_19, pvSh_20, pvSh_21, pvSh_22, pvSh_23, pvSh_24, pvSh_25, pvSh_26, pvSh_27, pvSh_28, pvSh_29, pvSh_30, pvSh_31, pvSh_32, pvSh_33, pvSh_34, pvSh_35, pvSh_36, pvSh_37, pvSh_38, pvSh_39, pvSh_40, pvSh_41, pvSh_42, pvSh_43, pvSh_44, pvSh_45, pvSh_46, pvSh_47, pvSh_48, pvSh_49, pvSh_50, pvSh_51, pvSh_52, pvSh_53, pvSh_54, pvSh_55, pvSh_56, pvSh_57, pvSh_58, pvSh_59, pvE_iload_n1, pvLI_s, pvE_iload_n2, pvE_invokevirtual, pvC1_s, pvC2_s, pvAf_v, pvAf_x, pvPop, pvCs, pvCat, pvPush, aX10_transition_134, pvE_if_eq, pvE_iload_n3, pvE_invokestatic (h0 := eX10_76), aX10_transition_76, pvE_getfield, pvGf_0, pvGf_1, pvGf_2, fX10_7, pvRf_0_0, pvRf_0_1, pvRf_0_2, pvRf_0_3, pvRf_0_4, pvRf_0_5, pvRf_0_6, pvRf_0_7, pvRf_0_8, pvRf_0_9, pvRf_0_10, pvRf_1_0, pvRf_3_0, pvRf_5_0, pvRf_5_1, pvRf_5_2, pvRf_9_0, pvRf_9_1, pvRf_9_2, pvRf_13_0, pvRf_13_1, pvRf_13_2, pvRf_17_0, pvRf_17_2, pvRf_20_0, pvRf_20_1, pvRf_20_2, pvRf_24_0, pvRf_24_1, pvRf_24_2, pvRf_28_0, pvRf_28_1, pvRf_28_2, pvRf_28_3, pvRf_33_0, pvRf_33_1, pvRf_36_0, pvRf_36_1, pvRf_39_0, pvRf_39_1, pvRf_39_2, pvRf_39_5, pvRf_39_6, pvRf_39_9, pvRf_39_13, pvRf_39_15, pvRf_39_16, pvRf_39_17, pvRf_39_19, pvRf_39_20, pvRf_39_22, pvRf_39_23, pvRf_39_24, pvRf_39_25, pvRf_39_29, pvRf_39_30, pvE_invokestatic (h0 := eX10_130), aX10_transition_130, pvE_iadd, pvE_iaload, pvAI, pvE_goto, aX10_transition_87, pvE_ireturn, bX10_transition_0, uX10_transition_0, bX10_transition_38, uX10_transition_38, bX10_transition_43, uX10_transition_43, pvRecv_r, pvUp_nl, pvUp_same, pvUp_ap, pvSt_ap, pvX_c, pvX_ms, pvX_mn, pvE_nil, pvEn_i, pvEn_r, pvEn_l, pvEn_0, pvEn_s, pvRt, pvRv, pvTh, pvKc, pvGo, pvTgt, Int.toNat_natCast, false_and, and_false, true_and, and_true, if_true, if_false, reduceIte, reduceCtorEq, forall_const, false_or, or_false, true_or, or_true, ne_eq, not_true_eq_false, not_false_eq_true, implies_true, false_implies, Nat.reduceAdd, Nat.reduceSub, Nat.reduceMul, Nat.reduceEqDiff, Nat.reduceLT, Nat.reduceLeDiff, Int.reduceAdd, Int.reduceSub, Int.reduceMul, Int.reduceNeg, Int.reduceToNat, Int.reduceLE, Int.reduceLT, Int.reduceEq, Int.reduceNe, and_self]
    by_cases hs : 0 ≤ s ∧ s ≤ 1
    · have gn : z.1 40 (163 * s + 2).toNat = (autR (z.1 40) s).1 := rS_n hs.1 rfl
      have hn := (hw hs).1
      rw [gn]
      by_cases ht : (0 ≤ t ∧ t < (autR (z.1 40) s).1) ∧ 0 ≤ c ∧ c ≤ 3
      · have h3 := h1 ⟨⟨hs, ht.1⟩, ht.2⟩
        rw [autR_T (by omega), nrT_s (by omega), ← rT_eq (z.1 40) (E := 163 * s + 3 + 16 * t + c) hs.1 (by omega)] at h3
        (repeat' (first | with_reducible apply And.intro | intro _))
        all_goals first
          | omega
          | assumption
      · have h3 := h2 (fun q => ht ⟨q.1.2, q.2⟩)
        (repeat' (first | with_reducible apply And.intro | intro _))
        all_goals first
          | omega
          | assumption
    · have h3 := h2 (fun q => hs q.1.1)
      (repeat' (first | with_reducible apply And.intro | intro _))
      all_goals first
        | omega
        | assumption
  · exact h.elim
def C_X10_constraint : pvC
  | [.inr (.inr (.inl id)), .inl s, .inl t, .inl i, .inl c], z, Q => id = 39 ∧ (0 ≤ s ∧ s ≤ 1 → WfA (autR (z.1 40) s)) ∧
      (trF (autR (z.1 40)) s t ∧ (0 ≤ i ∧ i < (autR (z.1 40) s).2.2.2 t.toNat 3) ∧ 0 ≤ c ∧ c ≤ 2 → Q (.inl (some (vI ((autR (z.1 40) s).2.2.2 t.toNat (4 + 3 * i + c).toNat)))) (pvUp z.1 39 8 0, z.2)) ∧
      (¬ (trF (autR (z.1 40)) s t ∧ (0 ≤ i ∧ i < (autR (z.1 40) s).2.2.2 t.toNat 3) ∧ 0 ≤ c ∧ c ≤ 2) → Q (.inl (some (vI 0))) (pvUp z.1 39 8 1, z.2))
  | _, _, _ => False
def bX10_constraint : Nat → List (Instr × Nat)
  | 0 => [(.aload_n 0, 1), (.iconst 0, 1), (.putfield 73, 3), (.aload_n 0, 1), (.iload_n 1, 1), (.iload_n 2, 1), (.invokevirtual 134, 3), (.ifCond .eq 57, 3), (.iload_n 3, 1), (.iconst 0, 1), (.aload_n 0, 1), (.getfield 7, 3), (.iload_n 1, 1), (.iload_n 2, 1), (.invokestatic 130, 3), (.iconst 3, 1), (.iadd, 1), (.iaload, 1), (.iconst 1, 1), (.isub, 1), (.invokestatic 76, 3), (.ifCond .eq 35, 3), (.iload 4, 2), (.iconst 0, 1), (.iconst 2, 1), (.invokestatic 76, 3), (.ifCond .eq 25, 3), (.aload_n 0, 1), (.getfield 7, 3), (.iload_n 1, 1), (.iload_n 2, 1), (.invokestatic 130, 3), (.iconst 4, 1), (.iadd, 1), (.iconst 3, 1), (.iload_n 3, 1), (.imul, 1), (.iadd, 1), (.iload 4, 2), (.iadd, 1), (.iaload, 1), (.goto 8, 3)]
  | 68 => [(.aload_n 0, 1), (.iconst 1, 1), (.invokevirtual 87, 3)]
  | 73 => [(.ireturn, 1)]
  | _ => []
def uX10_constraint : Nat → Option (List Bool)
  | _ => none
def aX10_constraint : pvCa
  | 76 => some (3, true, 0, 0, C_X10_in)
  | 87 => some (2, false, 9, 0, C_X10_fails)
  | 130 => some (2, true, 0, 0, C_X10_at)
  | 134 => some (3, false, 9, 0, C_X10_isTransition)
  | _ => none
theorem bX10_constraint_0 : bX10_constraint 0 = [(.aload_n 0, 1), (.iconst 0, 1), (.putfield 73, 3), (.aload_n 0, 1), (.iload_n 1, 1), (.iload_n 2, 1), (.invokevirtual 134, 3), (.ifCond .eq 57, 3), (.iload_n 3, 1), (.iconst 0, 1), (.aload_n 0, 1), (.getfield 7, 3), (.iload_n 1, 1), (.iload_n 2, 1), (.invokestatic 130, 3), (.iconst 3, 1), (.iadd, 1), (.iaload, 1), (.iconst 1, 1), (.isub, 1), (.invokestatic 76, 3), (.ifCond .eq 35, 3), (.iload 4, 2), (.iconst 0, 1), (.iconst 2, 1), (.invokestatic 76, 3), (.ifCond .eq 25, 3), (.aload_n 0, 1), (.getfield 7, 3), (.iload_n 1, 1), (.iload_n 2, 1), (.invokestatic 130, 3), (.iconst 4, 1), (.iadd, 1), (.iconst 3, 1), (.iload_n 3, 1), (.imul, 1), (.iadd, 1), (.iload 4, 2), (.iadd, 1), (.iaload, 1), (.goto 8, 3)] := rfl
theorem uX10_constraint_0 : uX10_constraint 0 = none := rfl
theorem bX10_constraint_68 : bX10_constraint 68 = [(.aload_n 0, 1), (.iconst 1, 1), (.invokevirtual 87, 3)] := rfl
theorem uX10_constraint_68 : uX10_constraint 68 = none := rfl
theorem bX10_constraint_73 : bX10_constraint 73 = [(.ireturn, 1)] := rfl
theorem uX10_constraint_73 : uX10_constraint 73 = none := rfl
theorem aX10_constraint_76 : aX10_constraint 76 = some (3, true, 0, 0, C_X10_in) := rfl
theorem aX10_constraint_87 : aX10_constraint 87 = some (2, false, 9, 0, C_X10_fails) := rfl
theorem aX10_constraint_130 : aX10_constraint 130 = some (2, true, 0, 0, C_X10_at) := rfl
theorem aX10_constraint_134 : aX10_constraint 134 = some (3, false, 9, 0, C_X10_isTransition) := rfl
def mX10_constraint : Room := { frames := 3, cells := 1, slots := 6, locals := 64 }
set_option maxRecDepth 100000 in
set_option maxHeartbeats 4000000 in
theorem okX10_constraint : pvOkM fX10 aX10_constraint kX10 eX10 (some .int) bX10_constraint uX10_constraint 5 C_X10_constraint := by
  intro Q SW hc as z h hS hz
  unfold C_X10_constraint at h
  split at h
  · rename_i id s t i c
    obtain ⟨rfl, hw, h1, h2⟩ := h
    refine ⟨Nat.le_of_ble_eq_true rfl, hc 20 _ _ _ fun _ _ => ?_⟩
    clear hc hS
    simp only [pvSt1]
    simp only [C_X10_isTransition, C_X10_in, C_X10_at, C_X10_fails, rcF, pvE_aload_n0, pvLA_s, pvLd, pvE_iconst, pvE_putfield, pvPf_0, pvPf_1, fX10_73, pvSh_0, pvSh_1, pvSh_2, pvSh_3, pvSh_4, pvSh_5, pvSh_6, pvSh_7, pvSh_8, pvSh_9, pvSh_10, pvSh_11, pvSh_12, pvSh_13, pvSh_14, pvSh_15, pvSh_16, pvSh_17, pvSh_18, pvSh_19, pvSh_20, pvSh_21, pvSh_22, pvSh_23, pvSh_24, pvSh_25, pvSh_26, pvSh_27, pvSh_28, pvSh_29, pvSh_30, pvSh_31, pvSh_32, pvSh_33, pvSh_34, pvSh_35, pvSh_36, pvSh_37, pvSh_38, pvSh_39, pvSh_40, pvSh_41, pvSh_42, pvSh_43, pvSh_44, pvSh_45, pvSh_46, pvSh_47, pvSh_48, pvSh_49, pvSh_50, pvSh_51, pvSh_52, pvSh_53, pvSh_54, pvSh_55, pvSh_56, pvSh_57, pvSh_58, pvSh_59, pvE_iload_n1, pvLI_s, pvE_iload_n2, pvE_invokevirtual, pvC1_s, pvC2_s, pvAf_v, pvAf_x, pvPop, pvCs, pvCat, pvPush, aX10_constraint_134, pvE_if_eq, pvE_iload_n3, pvE_getfield, pvGf_0, pvGf_1, pvGf_2, fX10_7, pvRf_0_0, pvRf_0_1, pvRf_0_2, pvRf_0_3, pvRf_0_4, pvRf_0_5, pvRf_0_6, pvRf_0_7, pvRf_0_8, pvRf_0_9, pvRf_0_10, pvRf_1_0, pvRf_3_0, pvRf_5_0, pvRf_5_1, pvRf_5_2, pvRf_9_0, pvRf_9_1, pvRf_9_2, pvRf_13_0, pvRf_13_1, pvRf_13_2, pvRf_17_0, pvRf_17_2, pvRf_20_0, pvRf_20_1, pvRf_20_2, pvRf_24_0, pvRf_24_1, pvRf_24_2, pvRf_28_0, pvRf_28_1, pvRf_28_2, pvRf_28_3, pvRf_33_0, pvRf_33_1, pvRf_36_0, pvRf_36_1, pvRf_39_0, pvRf_39_1, pvRf_39_2, pvRf_39_5, pvRf_39_6, pvRf_39_9, pvRf_39_13, pvRf_39_15, pvRf_39_16, pvRf_39_17, pvRf_39_19, pvRf_39_20, pvRf_39_22, pvRf_39_23, pvRf_39_24, pvRf_39_25, pvRf_39_29, pvRf_39_30, pvE_invokestatic (h0 := eX10_130), aX10_constraint_130, pvE_iadd, pvE_iaload, pvAI, pvE_isub, pvE_invokestatic (h0 := eX10_76), aX10_constraint_76, pvE_iload, pvE_imul, pvE_goto, aX10_constraint_87, pvE_ireturn, bX10_constraint_0, uX10_constraint_0, bX10_constraint_68, uX10_constraint_68, bX10_constraint_73, uX10_constraint_73, pvRecv_r, pvUp_nl, pvUp_same, pvUp_ap, pvSt_ap, pvX_c, pvX_ms, pvX_mn, pvE_nil, pvEn_i, pvEn_r, pvEn_l, pvEn_0, pvEn_s, pvRt, pvRv, pvTh, pvKc, pvGo, pvTgt, Int.toNat_natCast, false_and, and_false, true_and, and_true, if_true, if_false, reduceIte, reduceCtorEq, forall_const, false_or, or_false, true_or, or_true, ne_eq, not_true_eq_false, not_false_eq_true, implies_true, false_implies, Nat.reduceAdd, Nat.reduceSub, Nat.reduceMul, Nat.reduceEqDiff, Nat.reduceLT, Nat.reduceLeDiff, Int.reduceAdd, Int.reduceSub, Int.reduceMul, Int.reduceNeg, Int.reduceToNat, Int.reduceLE, Int.reduceLT, Int.reduceEq, Int.reduceNe, and_self]
    by_cases hs : 0 ≤ s ∧ s ≤ 1
    · have gn : z.1 40 (163 * s + 2).toNat = (autR (z.1 40) s).1 := rS_n hs.1 rfl
      have hn := (hw hs).1
      rw [gn]
      by_cases ht : 0 ≤ t ∧ t < (autR (z.1 40) s).1
      · have hT := autR_w (hw hs) (t := t.toNat) (by omega)
        have hT3 := hT.2.2.2.1
        have e3 : (autR (z.1 40) s).2.2.2 t.toNat 3 = rT (z.1 40) s t.toNat 3 := by rw [autR_T (by omega), nrT_s (by decide)]
        have g3 : z.1 40 (163 * s + 3 + 16 * t + 3).toNat = rT (z.1 40) s t.toNat 3 := rT_eq (z.1 40) hs.1 (by omega)
        rw [e3] at h1 h2
        rw [g3]
        by_cases hi : (0 ≤ i ∧ i < rT (z.1 40) s t.toNat 3) ∧ 0 ≤ c ∧ c ≤ 2
        · have h3 := h1 ⟨⟨hs, ht⟩, hi⟩
          rw [autR_T (by omega), show nrT (rT (z.1 40) s t.toNat) (4 + 3 * i + c).toNat = rT (z.1 40) s t.toNat (4 + 3 * i + c).toNat from if_pos (by omega), ← rT_eq (z.1 40) (E := 163 * s + 3 + 16 * t + 4 + 3 * i + c) hs.1 (by omega)] at h3
          (repeat' (first | with_reducible apply And.intro | intro _))
          all_goals first
            | omega
            | assumption
        · have h3 := h2 (fun q => hi q.2)
          (repeat' (first | with_reducible apply And.intro | intro _))
          all_goals first
            | omega
            | assumption
      · have h3 := h2 (fun q => ht q.1.2)
        (repeat' (first | with_reducible apply And.intro | intro _))
        all_goals first
          | omega
          | assumption
    · have h3 := h2 (fun q => hs q.1.1)
      (repeat' (first | with_reducible apply And.intro | intro _))
      all_goals first
        | omega
        | assumption
  · exact h.elim
def C_X10_satisfyingValuations : pvC
  | [.inr (.inr (.inl id)), .inl s, .inl t], z, Q => id = 39 ∧ (0 ≤ s ∧ s ≤ 1 → WfA (autR (z.1 40) s)) ∧
      (trF (autR (z.1 40)) s t → Q (.inl (some (vI (svK ((autR (z.1 40) s).2.2.2 t.toNat) 216)))) (pvUp z.1 39 8 0, z.2)) ∧ (¬ trF (autR (z.1 40)) s t → Q (.inl (some (vI 0))) (pvUp z.1 39 8 1, z.2))
  | _, _, _ => False
def bX10_satisfyingValuations : Nat → List (Instr × Nat)
  | 0 => [(.aload_n 0, 1), (.iconst 0, 1), (.putfield 73, 3), (.aload_n 0, 1), (.iload_n 1, 1), (.iload_n 2, 1), (.invokevirtual 134, 3), (.ifCond .ne 9, 3), (.aload_n 0, 1), (.iconst 1, 1), (.invokevirtual 87, 3), (.ireturn, 1)]
  | 20 => [(.iconst 0, 1), (.istore_n 3, 1), (.iconst 0, 1), (.istore 4, 2)]
  | 25 => [(.iload 4, 2), (.sipush 216, 3), (.if_icmp .ge 28, 3), (.iload_n 3, 1), (.aload_n 0, 1), (.iload_n 1, 1), (.iload_n 2, 1), (.iload 4, 2), (.invokevirtual 154, 3), (.ifCond .ge 7, 3), (.iconst 1, 1), (.goto 4, 3)]
  | 49 => [(.iconst 0, 1)]
  | 50 => [(.iadd, 1), (.istore_n 3, 1), (.iinc 4 1, 3), (.goto (-30), 3)]
  | 58 => [(.iload_n 3, 1), (.ireturn, 1)]
  | _ => []
def uX10_satisfyingValuations : Nat → Option (List Bool)
  | 25 => some [true, true, true, true, true]
  | _ => none
def aX10_satisfyingValuations : pvCa
  | 87 => some (2, false, 9, 0, C_X10_fails)
  | 134 => some (3, false, 9, 0, C_X10_isTransition)
  | 154 => some (4, false, 9, 0, C_X10_blocks)
  | _ => none
theorem bX10_satisfyingValuations_0 : bX10_satisfyingValuations 0 = [(.aload_n 0, 1), (.iconst 0, 1), (.putfield 73, 3), (.aload_n 0, 1), (.iload_n 1, 1), (.iload_n 2, 1), (.invokevirtual 134, 3), (.ifCond .ne 9, 3), (.aload_n 0, 1), (.iconst 1, 1), (.invokevirtual 87, 3), (.ireturn, 1)] := rfl
theorem uX10_satisfyingValuations_0 : uX10_satisfyingValuations 0 = none := rfl
theorem bX10_satisfyingValuations_20 : bX10_satisfyingValuations 20 = [(.iconst 0, 1), (.istore_n 3, 1), (.iconst 0, 1), (.istore 4, 2)] := rfl
theorem uX10_satisfyingValuations_20 : uX10_satisfyingValuations 20 = none := rfl
theorem bX10_satisfyingValuations_25 : bX10_satisfyingValuations 25 = [(.iload 4, 2), (.sipush 216, 3), (.if_icmp .ge 28, 3), (.iload_n 3, 1), (.aload_n 0, 1), (.iload_n 1, 1), (.iload_n 2, 1), (.iload 4, 2), (.invokevirtual 154, 3), (.ifCond .ge 7, 3), (.iconst 1, 1), (.goto 4, 3)] := rfl
theorem uX10_satisfyingValuations_25 : uX10_satisfyingValuations 25 = some [true, true, true, true, true] := rfl
theorem bX10_satisfyingValuations_49 : bX10_satisfyingValuations 49 = [(.iconst 0, 1)] := rfl
theorem uX10_satisfyingValuations_49 : uX10_satisfyingValuations 49 = none := rfl
theorem bX10_satisfyingValuations_50 : bX10_satisfyingValuations 50 = [(.iadd, 1), (.istore_n 3, 1), (.iinc 4 1, 3), (.goto (-30), 3)] := rfl
theorem uX10_satisfyingValuations_50 : uX10_satisfyingValuations 50 = none := rfl
theorem bX10_satisfyingValuations_58 : bX10_satisfyingValuations 58 = [(.iload_n 3, 1), (.ireturn, 1)] := rfl
theorem uX10_satisfyingValuations_58 : uX10_satisfyingValuations 58 = none := rfl
theorem aX10_satisfyingValuations_87 : aX10_satisfyingValuations 87 = some (2, false, 9, 0, C_X10_fails) := rfl
theorem aX10_satisfyingValuations_134 : aX10_satisfyingValuations 134 = some (3, false, 9, 0, C_X10_isTransition) := rfl
theorem aX10_satisfyingValuations_154 : aX10_satisfyingValuations 154 = some (4, false, 9, 0, C_X10_blocks) := rfl
def mX10_satisfyingValuations : Room := { frames := 3, cells := 1, slots := 6, locals := 64 }
set_option maxRecDepth 100000 in
set_option maxHeartbeats 4000000 in
theorem okX10_satisfyingValuations : pvOkM fX10 aX10_satisfyingValuations kX10 eX10 (some .int) bX10_satisfyingValuations uX10_satisfyingValuations 5 C_X10_satisfyingValuations := by
  intro Q SW hc as z h hS hz
  unfold C_X10_satisfyingValuations at h
  split at h
  · rename_i id s t
    obtain ⟨rfl, hw, h1, h2⟩ := h
    have loop : ∀ (m k : Nat), k + m = 216 → trF (autR (z.1 40)) s t → SW 25 [some (vR 39), some (vI s), some (vI t), some (vI (svK ((autR (z.1 40) s).2.2.2 t.toNat) k)), some (vI (k : Int))] (pvUp z.1 39 8 0, z.2) := by
      intro m
      induction m using Nat.strongRecOn with
      | _ m ih =>
        intro k hk htr
        have hr := svK_r ((autR (z.1 40) s).2.2.2 t.toNat) k
        refine hc 20 _ _ _ fun _ _ => ?_
        simp only [pvSt1]
        simp only [C_X10_blocks, pvE_aload_n0, pvLA_s, pvLd, pvE_iconst, pvE_putfield, pvPf_0, pvPf_1, fX10_73, pvSh_0, pvSh_1, pvSh_2, pvSh_3, pvSh_4, pvSh_5, pvSh_6, pvSh_7, pvSh_8, pvSh_9, pvSh_10, pvSh_11, pvSh_12, pvSh_13, pvSh_14, pvSh_15, pvSh_16, pvSh_17, pvSh_18, pvSh_19, pvSh_20, pvSh_21, pvSh_22, pvSh_23, pvSh_24, pvSh_25, pvSh_26, pvSh_27, pvSh_28, pvSh_29, pvSh_30, pvSh_31, pvSh_32, pvSh_33, pvSh_34, pvSh_35, pvSh_36, pvSh_37, pvSh_38, pvSh_39, pvSh_40, pvSh_41, pvSh_42, pvSh_43, pvSh_44, pvSh_45, pvSh_46, pvSh_47, pvSh_48, pvSh_49, pvSh_50, pvSh_51, pvSh_52, pvSh_53, pvSh_54, pvSh_55, pvSh_56, pvSh_57, pvSh_58, pvSh_59, pvE_iload_n1, pvLI_s, pvE_iload_n2, pvE_invokevirtual, pvC1_s, pvC2_s, pvAf_v, pvAf_x, pvPop, pvCs, pvCat, pvPush, aX10_satisfyingValuations_134, pvE_if_ne, aX10_satisfyingValuations_87, pvE_ireturn, pvE_istore_n3, pvS1, List.length_cons, List.length_nil, pvClr_i, pvClr_r, pvClr_l, pvClr_d, pvClr_f, pvClr_n, pvE_istore, pvE_iload, pvE_sipush, pvE_icmp_ge, pvE_iload_n3, aX10_satisfyingValuations_154, pvE_if_ge, pvE_goto, pvE_iadd, pvE_iinc, pvIc_s, bX10_satisfyingValuations_0, uX10_satisfyingValuations_0, bX10_satisfyingValuations_20, uX10_satisfyingValuations_20, bX10_satisfyingValuations_25, uX10_satisfyingValuations_25, bX10_satisfyingValuations_49, uX10_satisfyingValuations_49, bX10_satisfyingValuations_50, uX10_satisfyingValuations_50, bX10_satisfyingValuations_58, uX10_satisfyingValuations_58, pvMk_t, pvMk_f, pvMk_n, pvRecv_r, pvUp_nl, pvUp_same, pvUp_ap, pvSt_ap, pvX_c, pvX_ms, pvX_mn, pvE_nil, pvEn_i, pvEn_r, pvEn_l, pvEn_0, pvEn_s, pvRt, pvRv, pvTh, pvKc, pvGo, pvTgt, Int.toNat_natCast, false_and, and_false, true_and, and_true, if_true, if_false, reduceIte, reduceCtorEq, forall_const, false_or, or_false, true_or, or_true, ne_eq, not_true_eq_false, not_false_eq_true, implies_true, false_implies, Nat.reduceAdd, Nat.reduceSub, Nat.reduceMul, Nat.reduceEqDiff, Nat.reduceLT, Nat.reduceLeDiff, Int.reduceAdd, Int.reduceSub, Int.reduceMul, Int.reduceNeg, Int.reduceToNat, Int.reduceLE, Int.reduceLT, Int.reduceEq, Int.reduceNe, and_self]
        by_cases hkn : 216 ≤ k
        · obtain rfl : k = 216 := by omega
          have h3 := h1 htr
          (repeat' (first | with_reducible apply And.intro | intro _))
          all_goals first
            | omega
            | assumption
        · have ihk : SW 25 [some (vR 39), some (vI s), some (vI t), some (vI (svK ((autR (z.1 40) s).2.2.2 t.toNat) (k + 1))), some (vI ((k : Int) + 1))] (pvUp z.1 39 8 0, z.2) := ih (m - 1) (by omega) (k + 1) (by omega) htr
          simp only [svK] at ihk
          have hw9 := hw htr.1
          have htr1 := htr.1
          have htr2 := htr.2
          (repeat' (first | with_reducible apply And.intro | intro _))
          all_goals first
            | omega
            | assumption
            | (rename_i e; rw [if_pos (by omega)] at ihk; exact ihk)
            | (rename_i e; rw [if_neg (by omega), Int.add_zero] at ihk; rw [Int.add_zero]; exact ihk)
            | (rename_i e; rw [if_neg (by omega)] at ihk; exact ihk)
    refine ⟨Nat.le_of_ble_eq_true rfl, hc 20 _ _ _ fun _ _ => ?_⟩
    simp only [pvSt1]
    simp only [C_X10_isTransition, C_X10_fails, rcF, pvE_aload_n0, pvLA_s, pvLd, pvE_iconst, pvE_putfield, pvPf_0, pvPf_1, fX10_73, pvSh_0, pvSh_1, pvSh_2, pvSh_3, pvSh_4, pvSh_5, pvSh_6, pvSh_7, pvSh_8, pvSh_9, pvSh_10, pvSh_11, pvSh_12, pvSh_13, pvSh_14, pvSh_15, pvSh_16, pvSh_17, pvSh_18, pvSh_19, pvSh_20, pvSh_21, pvSh_22, pvSh_23, pvSh_24, pvSh_25, pvSh_26, pvSh_27, pvSh_28, pvSh_29, pvSh_30, pvSh_31, pvSh_32, pvSh_33, pvSh_34, pvSh_35, pvSh_36, pvSh_37, pvSh_38, pvSh_39, pvSh_40, pvSh_41, pvSh_42, pvSh_43, pvSh_44, pvSh_45, pvSh_46, pvSh_47, pvSh_48, pvSh_49, pvSh_50, pvSh_51, pvSh_52, pvSh_53, pvSh_54, pvSh_55, pvSh_56, pvSh_57, pvSh_58, pvSh_59, pvE_iload_n1, pvLI_s, pvE_iload_n2, pvE_invokevirtual, pvC1_s, pvC2_s, pvAf_v, pvAf_x, pvPop, pvCs, pvCat, pvPush, aX10_satisfyingValuations_134, pvE_if_ne, aX10_satisfyingValuations_87, pvE_ireturn, pvE_istore_n3, pvS1, List.length_cons, List.length_nil, pvClr_i, pvClr_r, pvClr_l, pvClr_d, pvClr_f, pvClr_n, pvE_istore, pvE_iload, pvE_sipush, pvE_icmp_ge, pvE_iload_n3, aX10_satisfyingValuations_154, pvE_if_ge, pvE_goto, pvE_iadd, pvE_iinc, pvIc_s, bX10_satisfyingValuations_0, uX10_satisfyingValuations_0, bX10_satisfyingValuations_20, uX10_satisfyingValuations_20, bX10_satisfyingValuations_25, uX10_satisfyingValuations_25, bX10_satisfyingValuations_49, uX10_satisfyingValuations_49, bX10_satisfyingValuations_50, uX10_satisfyingValuations_50, bX10_satisfyingValuations_58, uX10_satisfyingValuations_58, pvMk_t, pvMk_f, pvMk_n, pvRecv_r, pvUp_nl, pvUp_same, pvUp_ap, pvSt_ap, pvX_c, pvX_ms, pvX_mn, pvE_nil, pvEn_i, pvEn_r, pvEn_l, pvEn_0, pvEn_s, pvRt, pvRv, pvTh, pvKc, pvGo, pvTgt, Int.toNat_natCast, false_and, and_false, true_and, and_true, if_true, if_false, reduceIte, reduceCtorEq, forall_const, false_or, or_false, true_or, or_true, ne_eq, not_true_eq_false, not_false_eq_true, implies_true, false_implies, Nat.reduceAdd, Nat.reduceSub, Nat.reduceMul, Nat.reduceEqDiff, Nat.reduceLT, Nat.reduceLeDiff, Int.reduceAdd, Int.reduceSub, Int.reduceMul, Int.reduceNeg, Int.reduceToNat, Int.reduceLE, Int.reduceLT, Int.reduceEq, Int.reduceNe, and_self]
    by_cases hs : 0 ≤ s ∧ s ≤ 1
    · have gn : z.1 40 (163 * s + 2).toNat = (autR (z.1 40) s).1 := rS_n hs.1 rfl
      have hn := (hw hs).1
      rw [gn]
      by_cases ht : 0 ≤ t ∧ t < (autR (z.1 40) s).1
      · have h3 := loop 216 0 rfl ⟨hs, ht⟩
        (repeat' (first | with_reducible apply And.intro | intro _))
        all_goals first
          | omega
          | assumption
      · have h3 := h2 (fun q => ht q.2)
        (repeat' (first | with_reducible apply And.intro | intro _))
        all_goals first
          | omega
          | assumption
    · have h3 := h2 (fun q => hs q.1)
      (repeat' (first | with_reducible apply And.intro | intro _))
      all_goals first
        | omega
        | assumption
  · exact h.elim
