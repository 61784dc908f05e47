def btF (s q : Int) : Bool := s.toNat.testBit q.toNat
theorem bt_eq {s q : Int} (h : 0 ≤ s ∧ s ≤ 2147483647 ∧ 0 ≤ q ∧ q ≤ 31) : pvAnd (pvShr s q) 1 = if btF s q then 1 else 0 := by
  rw [pvShr_n (by omega) (by omega) (by omega) (by omega)]
  have h3 := pvAnd_n (x := s.toNat >>> q.toNat) (y := 1) (Nat.le_trans (shr_le _ _) (by omega)) (by decide)
  have e : ∀ n : Nat, n &&& 1 = if n.testBit 0 then 1 else 0 := fun n => by
    rw [Nat.and_one_is_mod, Nat.testBit_zero]
    rcases Nat.mod_two_eq_zero_or_one n with h | h <;> simp [h]
  rw [show (1 : Int) = ((1 : Nat) : Int) from rfl, h3, e, Nat.testBit_shiftRight, Nat.add_zero]
  unfold btF
  split <;> rfl
def C_X9_isIndex : pvC
  | [.inl i, .inl n], z, Q => (0 ≤ i ∧ i < n → Q (.inl (some (vI 1))) z) ∧ (¬ (0 ≤ i ∧ i < n) → Q (.inl (some (vI 0))) z)
  | _, _, _ => False
def bX9_isIndex : Nat → List (Instr × Nat)
  | 0 => [(.iload_n 0, 1), (.ifCond .lt 12, 3), (.iload_n 0, 1), (.iload_n 1, 1), (.if_icmp .ge 7, 3), (.iconst 1, 1), (.goto 4, 3)]
  | 13 => [(.iconst 0, 1)]
  | 14 => [(.ireturn, 1)]
  | _ => []
def uX9_isIndex : Nat → Option (List Bool)
  | _ => none
def aX9_isIndex : pvCa
  | _ => none
theorem bX9_isIndex_0 : bX9_isIndex 0 = [(.iload_n 0, 1), (.ifCond .lt 12, 3), (.iload_n 0, 1), (.iload_n 1, 1), (.if_icmp .ge 7, 3), (.iconst 1, 1), (.goto 4, 3)] := rfl
theorem uX9_isIndex_0 : uX9_isIndex 0 = none := rfl
theorem bX9_isIndex_13 : bX9_isIndex 13 = [(.iconst 0, 1)] := rfl
theorem uX9_isIndex_13 : uX9_isIndex 13 = none := rfl
theorem bX9_isIndex_14 : bX9_isIndex 14 = [(.ireturn, 1)] := rfl
theorem uX9_isIndex_14 : uX9_isIndex 14 = none := rfl
set_option maxRecDepth 100000 in
set_option maxHeartbeats 4000000 in
theorem okX9_isIndex : pvOkM fX9 aX9_isIndex kX9 eX9 (some .boolean) bX9_isIndex uX9_isIndex 2 C_X9_isIndex := by
  intro Q SW hc as z h hS hz
  unfold C_X9_isIndex at h
  split at h
  · rename_i i n
    refine ⟨Nat.le_of_ble_eq_true rfl, hc 20 _ _ _ fun _ _ => ?_⟩
    clear hc hS
    simp only [pvSt1]
    simp only [pvE_iload_n0, pvLI_s, pvLd, pvE_if_lt, pvE_iload_n1, pvE_icmp_ge, pvE_iconst, pvE_goto, pvE_ireturn, bX9_isIndex_0, uX9_isIndex_0, bX9_isIndex_13, uX9_isIndex_13, bX9_isIndex_14, uX9_isIndex_14, pvRtG, pvRecv_r, pvUp_nl, pvUp_same, pvUp_ap, pvSt_ap, pvX_c, pvX_ms, pvX_mn, pvE_nil, pvEn_i, pvEn_r, pvEn_l, pvEn_0, pvEn_s, pvRt, pvRv, pvTh, pvKc, pvGo, pvTgt, Int.toNat_natCast, false_and, and_false, true_and, and_true, if_true, if_false, reduceIte, reduceCtorEq, forall_const, false_or, or_false, true_or, or_true, ne_eq, not_true_eq_false, not_false_eq_true, implies_true, false_implies, Nat.reduceAdd, Nat.reduceSub, Nat.reduceMul, Nat.reduceEqDiff, Nat.reduceLT, Nat.reduceLeDiff, Int.reduceAdd, Int.reduceSub, Int.reduceMul, Int.reduceNeg, Int.reduceToNat, Int.reduceLE, Int.reduceLT, Int.reduceEq, Int.reduceNe, and_self]
    grind
  · exact h.elim
def C_X9_isBetween : pvC
  | [.inl i, .inl a, .inl b], z, Q => (a ≤ i ∧ i ≤ b → Q (.inl (some (vI 1))) z) ∧ (¬ (a ≤ i ∧ i ≤ b) → Q (.inl (some (vI 0))) z)
  | _, _, _ => False
def bX9_isBetween : Nat → List (Instr × Nat)
  | 0 => [(.iload_n 0, 1), (.iload_n 1, 1), (.if_icmp .lt 12, 3), (.iload_n 0, 1), (.iload_n 2, 1), (.if_icmp .gt 7, 3), (.iconst 1, 1), (.goto 4, 3)]
  | 14 => [(.iconst 0, 1)]
  | 15 => [(.ireturn, 1)]
  | _ => []
def uX9_isBetween : Nat → Option (List Bool)
  | _ => none
def aX9_isBetween : pvCa
  | _ => none
theorem bX9_isBetween_0 : bX9_isBetween 0 = [(.iload_n 0, 1), (.iload_n 1, 1), (.if_icmp .lt 12, 3), (.iload_n 0, 1), (.iload_n 2, 1), (.if_icmp .gt 7, 3), (.iconst 1, 1), (.goto 4, 3)] := rfl
theorem uX9_isBetween_0 : uX9_isBetween 0 = none := rfl
theorem bX9_isBetween_14 : bX9_isBetween 14 = [(.iconst 0, 1)] := rfl
theorem uX9_isBetween_14 : uX9_isBetween 14 = none := rfl
theorem bX9_isBetween_15 : bX9_isBetween 15 = [(.ireturn, 1)] := rfl
theorem uX9_isBetween_15 : uX9_isBetween 15 = none := rfl
set_option maxRecDepth 100000 in
set_option maxHeartbeats 4000000 in
theorem okX9_isBetween : pvOkM fX9 aX9_isBetween kX9 eX9 (some .boolean) bX9_isBetween uX9_isBetween 3 C_X9_isBetween := by
  intro Q SW hc as z h hS hz
  unfold C_X9_isBetween at h
  split at h
  · rename_i i a b
    refine ⟨Nat.le_of_ble_eq_true rfl, hc 20 _ _ _ fun _ _ => ?_⟩
    clear hc hS
    simp only [pvSt1]
    simp only [pvE_iload_n0, pvLI_s, pvLd, pvE_iload_n1, pvE_icmp_lt, pvE_iload_n2, pvE_icmp_gt, pvE_iconst, pvE_goto, pvE_ireturn, bX9_isBetween_0, uX9_isBetween_0, bX9_isBetween_14, uX9_isBetween_14, bX9_isBetween_15, uX9_isBetween_15, pvRtG, pvRecv_r, pvUp_nl, pvUp_same, pvUp_ap, pvSt_ap, pvX_c, pvX_ms, pvX_mn, pvE_nil, pvEn_i, pvEn_r, pvEn_l, pvEn_0, pvEn_s, pvRt, pvRv, pvTh, pvKc, pvGo, pvTgt, Int.toNat_natCast, false_and, and_false, true_and, and_true, if_true, if_false, reduceIte, reduceCtorEq, forall_const, false_or, or_false, true_or, or_true, ne_eq, not_true_eq_false, not_false_eq_true, implies_true, false_implies, Nat.reduceAdd, Nat.reduceSub, Nat.reduceMul, Nat.reduceEqDiff, Nat.reduceLT, Nat.reduceLeDiff, Int.reduceAdd, Int.reduceSub, Int.reduceMul, Int.reduceNeg, Int.reduceToNat, Int.reduceLE, Int.reduceLT, Int.reduceEq, Int.reduceNe, and_self]
    grind
  · exact h.elim
def C_X9_hasState : pvC
  | [.inl s, .inl q], z, Q => (0 ≤ s ∧ 0 ≤ q ∧ q ≤ 31) ∧ (btF s q = true → Q (.inl (some (vI 1))) z) ∧ (btF s q = false → Q (.inl (some (vI 0))) z)
  | _, _, _ => False
def bX9_hasState : Nat → List (Instr × Nat)
  | 0 => [(.iload_n 0, 1), (.iload_n 1, 1), (.ishr, 1), (.iconst 1, 1), (.iand, 1), (.ifCond .eq 7, 3), (.iconst 1, 1), (.goto 4, 3)]
  | 12 => [(.iconst 0, 1)]
  | 13 => [(.ireturn, 1)]
  | _ => []
def uX9_hasState : Nat → Option (List Bool)
  | _ => none
def aX9_hasState : pvCa
  | _ => none
theorem bX9_hasState_0 : bX9_hasState 0 = [(.iload_n 0, 1), (.iload_n 1, 1), (.ishr, 1), (.iconst 1, 1), (.iand, 1), (.ifCond .eq 7, 3), (.iconst 1, 1), (.goto 4, 3)] := rfl
theorem uX9_hasState_0 : uX9_hasState 0 = none := rfl
theorem bX9_hasState_12 : bX9_hasState 12 = [(.iconst 0, 1)] := rfl
theorem uX9_hasState_12 : uX9_hasState 12 = none := rfl
theorem bX9_hasState_13 : bX9_hasState 13 = [(.ireturn, 1)] := rfl
theorem uX9_hasState_13 : uX9_hasState 13 = none := rfl
set_option maxRecDepth 100000 in
set_option maxHeartbeats 4000000 in
theorem okX9_hasState : pvOkM fX9 aX9_hasState kX9 eX9 (some .boolean) bX9_hasState uX9_hasState 2 C_X9_hasState := by
  intro Q SW hc as z h hS hz
  unfold C_X9_hasState at h
  split at h
  · rename_i a v
    obtain ⟨h1, h2, h3⟩ := h
    have hr : pvR a := pvOkS_h hS
    refine ⟨Nat.le_of_ble_eq_true rfl, hc 20 _ _ _ fun _ _ => ?_⟩
    clear hc hS
    simp only [pvSt1]
    simp only [pvE_iload_n0, pvLI_s, pvLd, pvE_iload_n1, pvE_ishr, pvE_iconst, pvE_iand, pvE_if_eq, pvE_goto, pvE_ireturn, bX9_hasState_0, uX9_hasState_0, bX9_hasState_12, uX9_hasState_12, bX9_hasState_13, uX9_hasState_13, pvRtG, pvRecv_r, pvUp_nl, pvUp_same, pvUp_ap, pvSt_ap, pvX_c, pvX_ms, pvX_mn, pvE_nil, pvEn_i, pvEn_r, pvEn_l, pvEn_0, pvEn_s, pvRt, pvRv, pvTh, pvKc, pvGo, pvTgt, Int.toNat_natCast, false_and, and_false, true_and, and_true, if_true, if_false, reduceIte, reduceCtorEq, forall_const, false_or, or_false, true_or, or_true, ne_eq, not_true_eq_false, not_false_eq_true, implies_true, false_implies, Nat.reduceAdd, Nat.reduceSub, Nat.reduceMul, Nat.reduceEqDiff, Nat.reduceLT, Nat.reduceLeDiff, Int.reduceAdd, Int.reduceSub, Int.reduceMul, Int.reduceNeg, Int.reduceToNat, Int.reduceLE, Int.reduceLT, Int.reduceEq, Int.reduceNe, and_self]
    rw [bt_eq ⟨h1.1, hr.2, h1.2⟩]
    cases e : btF a v
    · and_intros <;> first | omega | (intro _; exact ⟨by omega, h3 e⟩) | (intro q; exact absurd rfl q)
    · and_intros <;> first | omega | (intro q; exact absurd q (by decide)) | (intro _; exact ⟨by omega, h2 e⟩)
  · exact h.elim
def C_X9_requireIndex : pvC
  | [.inl i, .inl n], z, Q => (0 ≤ i ∧ i < n → Q (.inl none) z) ∧ (¬ (0 ≤ i ∧ i < n) → Q (.inr 0) z)
  | _, _, _ => False
def bX9_requireIndex : Nat → List (Instr × Nat)
  | 0 => [(.iload_n 0, 1), (.ifCond .lt 8, 3), (.iload_n 0, 1), (.iload_n 1, 1), (.if_icmp .lt 11, 3)]
  | 9 => [(.new 306, 3), (.dup, 1), (.invokespecial 308, 3), (.athrow, 1)]
  | 17 => [(.return_, 1)]
  | _ => []
def uX9_requireIndex : Nat → Option (List Bool)
  | _ => none
def aX9_requireIndex : pvCa
  | _ => none
theorem bX9_requireIndex_0 : bX9_requireIndex 0 = [(.iload_n 0, 1), (.ifCond .lt 8, 3), (.iload_n 0, 1), (.iload_n 1, 1), (.if_icmp .lt 11, 3)] := rfl
theorem uX9_requireIndex_0 : uX9_requireIndex 0 = none := rfl
theorem bX9_requireIndex_9 : bX9_requireIndex 9 = [(.new 306, 3), (.dup, 1), (.invokespecial 308, 3), (.athrow, 1)] := rfl
theorem uX9_requireIndex_9 : uX9_requireIndex 9 = none := rfl
theorem bX9_requireIndex_17 : bX9_requireIndex 17 = [(.return_, 1)] := rfl
theorem uX9_requireIndex_17 : uX9_requireIndex 17 = none := rfl
set_option maxRecDepth 100000 in
set_option maxHeartbeats 4000000 in
theorem okX9_requireIndex : pvOkM fX9 aX9_requireIndex kX9 eX9 none bX9_requireIndex uX9_requireIndex 2 C_X9_requireIndex := by
  intro Q SW hc as z h hS hz
  unfold C_X9_requireIndex at h
  split at h
  · rename_i i n
    refine ⟨Nat.le_of_ble_eq_true rfl, hc 20 _ _ _ fun _ _ => ?_⟩
    clear hc hS
    simp only [pvSt1]
    simp only [pvE_iload_n0, pvLI_s, pvLd, pvE_if_lt, pvE_iload_n1, pvE_icmp_lt, pvE_throw (h0 := eX9_306), pvE_dup_i, pvE_dup_r, pvE_return, bX9_requireIndex_0, uX9_requireIndex_0, bX9_requireIndex_9, uX9_requireIndex_9, bX9_requireIndex_17, uX9_requireIndex_17, pvRtG, pvRecv_r, pvUp_nl, pvUp_same, pvUp_ap, pvSt_ap, pvX_c, pvX_ms, pvX_mn, pvE_nil, pvEn_i, pvEn_r, pvEn_l, pvEn_0, pvEn_s, pvRt, pvRv, pvTh, pvKc, pvGo, pvTgt, Int.toNat_natCast, false_and, and_false, true_and, and_true, if_true, if_false, reduceIte, reduceCtorEq, forall_const, false_or, or_false, true_or, or_true, ne_eq, not_true_eq_false, not_false_eq_true, implies_true, false_implies, Nat.reduceAdd, Nat.reduceSub, Nat.reduceMul, Nat.reduceEqDiff, Nat.reduceLT, Nat.reduceLeDiff, Int.reduceAdd, Int.reduceSub, Int.reduceMul, Int.reduceNeg, Int.reduceToNat, Int.reduceLE, Int.reduceLT, Int.reduceEq, Int.reduceNe, and_self]
    grind
  · exact h.elim
def C_X9_requireArgument : pvC
  | [.inl b], z, Q => (b ≠ 0 → Q (.inl none) z) ∧ (b = 0 → Q (.inr 1) z)
  | _, _, _ => False
def bX9_requireArgument : Nat → List (Instr × Nat)
  | 0 => [(.iload_n 0, 1), (.ifCond .ne 11, 3), (.new 309, 3), (.dup, 1), (.invokespecial 311, 3), (.athrow, 1)]
  | 12 => [(.return_, 1)]
  | _ => []
def uX9_requireArgument : Nat → Option (List Bool)
  | _ => none
def aX9_requireArgument : pvCa
  | _ => none
theorem bX9_requireArgument_0 : bX9_requireArgument 0 = [(.iload_n 0, 1), (.ifCond .ne 11, 3), (.new 309, 3), (.dup, 1), (.invokespecial 311, 3), (.athrow, 1)] := rfl
theorem uX9_requireArgument_0 : uX9_requireArgument 0 = none := rfl
theorem bX9_requireArgument_12 : bX9_requireArgument 12 = [(.return_, 1)] := rfl
theorem uX9_requireArgument_12 : uX9_requireArgument 12 = none := rfl
set_option maxRecDepth 100000 in
set_option maxHeartbeats 4000000 in
theorem okX9_requireArgument : pvOkM fX9 aX9_requireArgument kX9 eX9 none bX9_requireArgument uX9_requireArgument 1 C_X9_requireArgument := by
  intro Q SW hc as z h hS hz
  unfold C_X9_requireArgument at h
  split at h
  · rename_i b
    refine ⟨Nat.le_of_ble_eq_true rfl, hc 20 _ _ _ fun _ _ => ?_⟩
    clear hc hS
    simp only [pvSt1]
    simp only [pvE_iload_n0, pvLI_s, pvLd, pvE_if_ne, pvE_throw (h0 := eX9_309), pvE_dup_i, pvE_dup_r, pvE_return, bX9_requireArgument_0, uX9_requireArgument_0, bX9_requireArgument_12, uX9_requireArgument_12, pvRtG, pvRecv_r, pvUp_nl, pvUp_same, pvUp_ap, pvSt_ap, pvX_c, pvX_ms, pvX_mn, pvE_nil, pvEn_i, pvEn_r, pvEn_l, pvEn_0, pvEn_s, pvRt, pvRv, pvTh, pvKc, pvGo, pvTgt, Int.toNat_natCast, false_and, and_false, true_and, and_true, if_true, if_false, reduceIte, reduceCtorEq, forall_const, false_or, or_false, true_or, or_true, ne_eq, not_true_eq_false, not_false_eq_true, implies_true, false_implies, Nat.reduceAdd, Nat.reduceSub, Nat.reduceMul, Nat.reduceEqDiff, Nat.reduceLT, Nat.reduceLeDiff, Int.reduceAdd, Int.reduceSub, Int.reduceMul, Int.reduceNeg, Int.reduceToNat, Int.reduceLE, Int.reduceLT, Int.reduceEq, Int.reduceNe, and_self]
    grind
  · exact h.elim
def C_X9_requireState : pvC
  | [.inl b], z, Q => (b ≠ 0 → Q (.inl none) z) ∧ (b = 0 → Q (.inr 2) z)
  | _, _, _ => False
def bX9_requireState : Nat → List (Instr × Nat)
  | 0 => [(.iload_n 0, 1), (.ifCond .ne 11, 3), (.new 312, 3), (.dup, 1), (.invokespecial 314, 3), (.athrow, 1)]
  | 12 => [(.return_, 1)]
  | _ => []
def uX9_requireState : Nat → Option (List Bool)
  | _ => none
def aX9_requireState : pvCa
  | _ => none
theorem bX9_requireState_0 : bX9_requireState 0 = [(.iload_n 0, 1), (.ifCond .ne 11, 3), (.new 312, 3), (.dup, 1), (.invokespecial 314, 3), (.athrow, 1)] := rfl
theorem uX9_requireState_0 : uX9_requireState 0 = none := rfl
theorem bX9_requireState_12 : bX9_requireState 12 = [(.return_, 1)] := rfl
theorem uX9_requireState_12 : uX9_requireState 12 = none := rfl
set_option maxRecDepth 100000 in
set_option maxHeartbeats 4000000 in
theorem okX9_requireState : pvOkM fX9 aX9_requireState kX9 eX9 none bX9_requireState uX9_requireState 1 C_X9_requireState := by
  intro Q SW hc as z h hS hz
  unfold C_X9_requireState at h
  split at h
  · rename_i b
    refine ⟨Nat.le_of_ble_eq_true rfl, hc 20 _ _ _ fun _ _ => ?_⟩
    clear hc hS
    simp only [pvSt1]
    simp only [pvE_iload_n0, pvLI_s, pvLd, pvE_if_ne, pvE_throw (h0 := eX9_312), pvE_dup_i, pvE_dup_r, pvE_return, bX9_requireState_0, uX9_requireState_0, bX9_requireState_12, uX9_requireState_12, pvRtG, pvRecv_r, pvUp_nl, pvUp_same, pvUp_ap, pvSt_ap, pvX_c, pvX_ms, pvX_mn, pvE_nil, pvEn_i, pvEn_r, pvEn_l, pvEn_0, pvEn_s, pvRt, pvRv, pvTh, pvKc, pvGo, pvTgt, Int.toNat_natCast, false_and, and_false, true_and, and_true, if_true, if_false, reduceIte, reduceCtorEq, forall_const, false_or, or_false, true_or, or_true, ne_eq, not_true_eq_false, not_false_eq_true, implies_true, false_implies, Nat.reduceAdd, Nat.reduceSub, Nat.reduceMul, Nat.reduceEqDiff, Nat.reduceLT, Nat.reduceLeDiff, Int.reduceAdd, Int.reduceSub, Int.reduceMul, Int.reduceNeg, Int.reduceToNat, Int.reduceLE, Int.reduceLT, Int.reduceEq, Int.reduceNe, and_self]
    grind
  · exact h.elim
def C_X9_requireElement : pvC
  | [.inl b], z, Q => (b ≠ 0 → Q (.inl none) z) ∧ (b = 0 → Q (.inr 3) z)
  | _, _, _ => False
def bX9_requireElement : Nat → List (Instr × Nat)
  | 0 => [(.iload_n 0, 1), (.ifCond .ne 11, 3), (.new 315, 3), (.dup, 1), (.invokespecial 317, 3), (.athrow, 1)]
  | 12 => [(.return_, 1)]
  | _ => []
def uX9_requireElement : Nat → Option (List Bool)
  | _ => none
def aX9_requireElement : pvCa
  | _ => none
theorem bX9_requireElement_0 : bX9_requireElement 0 = [(.iload_n 0, 1), (.ifCond .ne 11, 3), (.new 315, 3), (.dup, 1), (.invokespecial 317, 3), (.athrow, 1)] := rfl
theorem uX9_requireElement_0 : uX9_requireElement 0 = none := rfl
theorem bX9_requireElement_12 : bX9_requireElement 12 = [(.return_, 1)] := rfl
theorem uX9_requireElement_12 : uX9_requireElement 12 = none := rfl
set_option maxRecDepth 100000 in
set_option maxHeartbeats 4000000 in
theorem okX9_requireElement : pvOkM fX9 aX9_requireElement kX9 eX9 none bX9_requireElement uX9_requireElement 1 C_X9_requireElement := by
  intro Q SW hc as z h hS hz
  unfold C_X9_requireElement at h
  split at h
  · rename_i b
    refine ⟨Nat.le_of_ble_eq_true rfl, hc 20 _ _ _ fun _ _ => ?_⟩
    clear hc hS
    simp only [pvSt1]
    simp only [pvE_iload_n0, pvLI_s, pvLd, pvE_if_ne, pvE_throw (h0 := eX9_315), pvE_dup_i, pvE_dup_r, pvE_return, bX9_requireElement_0, uX9_requireElement_0, bX9_requireElement_12, uX9_requireElement_12, pvRtG, pvRecv_r, pvUp_nl, pvUp_same, pvUp_ap, pvSt_ap, pvX_c, pvX_ms, pvX_mn, pvE_nil, pvEn_i, pvEn_r, pvEn_l, pvEn_0, pvEn_s, pvRt, pvRv, pvTh, pvKc, pvGo, pvTgt, Int.toNat_natCast, false_and, and_false, true_and, and_true, if_true, if_false, reduceIte, reduceCtorEq, forall_const, false_or, or_false, true_or, or_true, ne_eq, not_true_eq_false, not_false_eq_true, implies_true, false_implies, Nat.reduceAdd, Nat.reduceSub, Nat.reduceMul, Nat.reduceEqDiff, Nat.reduceLT, Nat.reduceLeDiff, Int.reduceAdd, Int.reduceSub, Int.reduceMul, Int.reduceNeg, Int.reduceToNat, Int.reduceLE, Int.reduceLT, Int.reduceEq, Int.reduceNe, and_self]
    grind
  · exact h.elim
def C_X9_automaton : pvC
  | [.inr (.inr (.inl id)), .inl s], z, Q => id = 0 ∧ (s = 0 → Q (.inl (some (vR 1))) z) ∧ (s ≠ 0 → Q (.inl (some (vR 3))) z)
  | _, _, _ => False
def bX9_automaton : Nat → List (Instr × Nat)
  | 0 => [(.iload_n 1, 1), (.ifCond .ne 10, 3), (.aload_n 0, 1), (.getfield 10, 3), (.goto 7, 3)]
  | 11 => [(.aload_n 0, 1), (.getfield 16, 3)]
  | 15 => [(.areturn, 1)]
  | _ => []
def uX9_automaton : Nat → Option (List Bool)
  | _ => none
def aX9_automaton : pvCa
  | _ => none
theorem bX9_automaton_0 : bX9_automaton 0 = [(.iload_n 1, 1), (.ifCond .ne 10, 3), (.aload_n 0, 1), (.getfield 10, 3), (.goto 7, 3)] := rfl
theorem uX9_automaton_0 : uX9_automaton 0 = none := rfl
theorem bX9_automaton_11 : bX9_automaton 11 = [(.aload_n 0, 1), (.getfield 16, 3)] := rfl
theorem uX9_automaton_11 : uX9_automaton 11 = none := rfl
theorem bX9_automaton_15 : bX9_automaton 15 = [(.areturn, 1)] := rfl
theorem uX9_automaton_15 : uX9_automaton 15 = none := rfl
set_option maxRecDepth 100000 in
set_option maxHeartbeats 4000000 in
theorem okX9_automaton : pvOkM fX9 aX9_automaton kX9 eX9 (some (.object "EventClockWorkbench$Automaton")) bX9_automaton uX9_automaton 2 C_X9_automaton := by
  intro Q SW hc as z h hS hz
  unfold C_X9_automaton at h
  split at h
  · rename_i id s
    obtain ⟨hid, h⟩ := h
    refine ⟨Nat.le_of_ble_eq_true rfl, hc 20 _ _ _ fun _ _ => ?_⟩
    clear hc hS
    subst hid
    (simp only [pvSt1]
     simp only [pvE_iload_n1, pvLI_s, pvLd, pvE_if_ne, pvE_aload_n0, pvLA_s, pvE_getfield, pvGf_0, pvGf_1, pvGf_2, fX9_10, pvSh_0, pvSh_1, pvSh_2, pvSh_3, pvSh_4, pvSh_5, pvSh_6, pvSh_7, pvSh_8, pvSh_9, pvSh_10, pvSh_11, pvSh_12, pvSh_13, pvSh_14, pvSh_15, pvSh_16, pvSh_17, pvSh_18, pvSh_19, pvSh_20, pvSh_21, pvSh_22, pvSh_23, pvSh_24, pvSh_25, pvSh_26, pvSh_27, pvSh_28, pvSh_29, pvSh_30, pvSh_31, pvSh_32, pvSh_33, pvSh_34, pvSh_35, pvSh_36, pvSh_37, pvSh_38, pvRf_0_0, pvRf_0_1, pvRf_0_2, pvRf_0_3, pvRf_0_4, pvRf_0_5, pvRf_0_6, pvRf_0_7, pvRf_0_8, pvRf_0_9, pvRf_0_10, pvRf_1_0, pvRf_3_0, pvRf_5_0, pvRf_5_1, pvRf_5_2, pvRf_9_0, pvRf_9_1, pvRf_9_2, pvRf_13_0, pvRf_13_1, pvRf_13_2, pvRf_17_0, pvRf_17_2, pvRf_20_0, pvRf_20_1, pvRf_20_2, pvRf_24_0, pvRf_24_1, pvRf_24_2, pvRf_28_0, pvRf_28_1, pvRf_28_2, pvRf_28_3, pvRf_33_0, pvRf_33_1, pvRf_36_0, pvRf_36_1, pvE_goto, fX9_16, pvE_areturn, bX9_automaton_0, uX9_automaton_0, bX9_automaton_11, uX9_automaton_11, bX9_automaton_15, uX9_automaton_15, pvRtG, pvRecv_r, pvUp_nl, pvUp_same, pvUp_ap, pvSt_ap, pvX_c, pvX_ms, pvX_mn, pvE_nil, pvEn_i, pvEn_r, pvEn_l, pvEn_0, pvEn_s, pvRt, pvRv, pvTh, pvKc, pvGo, pvTgt, Int.toNat_natCast, false_and, and_false, true_and, and_true, if_true, if_false, reduceIte, reduceCtorEq, forall_const, false_or, or_false, true_or, or_true, ne_eq, not_true_eq_false, not_false_eq_true, implies_true, false_implies, Nat.reduceAdd, Nat.reduceSub, Nat.reduceMul, Nat.reduceEqDiff, Nat.reduceLT, Nat.reduceLeDiff, Int.reduceAdd, Int.reduceSub, Int.reduceMul, Int.reduceNeg, Int.reduceToNat, Int.reduceLE, Int.reduceLT, Int.reduceEq, Int.reduceNe, and_self]
     grind)
  · exact h.elim
def C_X9_markStale : pvC
  | [.inr (.inr (.inl id))], z, Q => id = 0 ∧ Q (.inl none) (pvUp (pvUp z.1 5 6 0) 9 6 0, z.2)
  | _, _, _ => False
def bX9_markStale : Nat → List (Instr × Nat)
  | 0 => [(.aload_n 0, 1), (.getfield 22, 3), (.iconst 0, 1), (.putfield 303, 3), (.aload_n 0, 1), (.getfield 26, 3), (.iconst 0, 1), (.putfield 303, 3), (.return_, 1)]
  | _ => []
def uX9_markStale : Nat → Option (List Bool)
  | _ => none
def aX9_markStale : pvCa
  | _ => none
theorem bX9_markStale_0 : bX9_markStale 0 = [(.aload_n 0, 1), (.getfield 22, 3), (.iconst 0, 1), (.putfield 303, 3), (.aload_n 0, 1), (.getfield 26, 3), (.iconst 0, 1), (.putfield 303, 3), (.return_, 1)] := rfl
theorem uX9_markStale_0 : uX9_markStale 0 = none := rfl
set_option maxRecDepth 100000 in
set_option maxHeartbeats 4000000 in
theorem okX9_markStale : pvOkM fX9 aX9_markStale kX9 eX9 none bX9_markStale uX9_markStale 1 C_X9_markStale := by
  intro Q SW hc as z h hS hz
  unfold C_X9_markStale at h
  split at h
  · rename_i id
    obtain ⟨hid, h⟩ := h
    refine ⟨Nat.le_of_ble_eq_true rfl, hc 20 _ _ _ fun _ _ => ?_⟩
    clear hc hS
    subst hid
    (simp only [pvSt1]
     simp only [pvE_aload_n0, pvLA_s, pvLd, pvE_getfield, pvGf_0, pvGf_1, pvGf_2, fX9_22, pvSh_0, pvSh_1, pvSh_2, pvSh_3, pvSh_4, pvSh_5, pvSh_6, pvSh_7, pvSh_8, pvSh_9, pvSh_10, pvSh_11, pvSh_12, pvSh_13, pvSh_14, pvSh_15, pvSh_16, pvSh_17, pvSh_18, pvSh_19, pvSh_20, pvSh_21, pvSh_22, pvSh_23, pvSh_24, pvSh_25, pvSh_26, pvSh_27, pvSh_28, pvSh_29, pvSh_30, pvSh_31, pvSh_32, pvSh_33, pvSh_34, pvSh_35, pvSh_36, pvSh_37, pvSh_38, pvRf_0_0, pvRf_0_1, pvRf_0_2, pvRf_0_3, pvRf_0_4, pvRf_0_5, pvRf_0_6, pvRf_0_7, pvRf_0_8, pvRf_0_9, pvRf_0_10, pvRf_1_0, pvRf_3_0, pvRf_5_0, pvRf_5_1, pvRf_5_2, pvRf_9_0, pvRf_9_1, pvRf_9_2, pvRf_13_0, pvRf_13_1, pvRf_13_2, pvRf_17_0, pvRf_17_2, pvRf_20_0, pvRf_20_1, pvRf_20_2, pvRf_24_0, pvRf_24_1, pvRf_24_2, pvRf_28_0, pvRf_28_1, pvRf_28_2, pvRf_28_3, pvRf_33_0, pvRf_33_1, pvRf_36_0, pvRf_36_1, pvE_iconst, pvE_putfield, pvPf_0, pvPf_1, fX9_303, fX9_26, pvE_return, bX9_markStale_0, uX9_markStale_0, pvRtG, pvRecv_r, pvUp_nl, pvUp_same, pvUp_ap, pvSt_ap, pvX_c, pvX_ms, pvX_mn, pvE_nil, pvEn_i, pvEn_r, pvEn_l, pvEn_0, pvEn_s, pvRt, pvRv, pvTh, pvKc, pvGo, pvTgt, Int.toNat_natCast, false_and, and_false, true_and, and_true, if_true, if_false, reduceIte, reduceCtorEq, forall_const, false_or, or_false, true_or, or_true, ne_eq, not_true_eq_false, not_false_eq_true, implies_true, false_implies, Nat.reduceAdd, Nat.reduceSub, Nat.reduceMul, Nat.reduceEqDiff, Nat.reduceLT, Nat.reduceLeDiff, Int.reduceAdd, Int.reduceSub, Int.reduceMul, Int.reduceNeg, Int.reduceToNat, Int.reduceLE, Int.reduceLT, Int.reduceEq, Int.reduceNe, and_self]
     grind)
  · exact h.elim
/-! the word -/
def C_X6_append : pvC
  | [.inr (.inr (.inl id)), .inl d, .inl l], z, Q => id = 20 ∧ (0 ≤ d ∧ d ≤ 4 ∧ 0 ≤ l ∧ l ≤ 2 ∧ 0 ≤ z.1 20 4 ∧ z.1 20 4 < 10 ∧ 0 ≤ z.1 20 3 ∧ z.1 20 3 < 216) ∧
      Q (.inl (some (vI (z.1 20 4 + 1)))) (pvUp (pvUp (pvUp (pvUp (pvUp z.1 21 (z.1 20 4).toNat d) 22 (z.1 20 4).toNat l) 23 (z.1 20 4).toNat (psF (z.1 20 3) d)) 20 3 (rsF (psF (z.1 20 3) d) l)) 20 4 (z.1 20 4 + 1), z.2)
  | _, _, _ => False
def bX6_append : Nat → List (Instr × Nat)
  | 0 => [(.aload_n 0, 1), (.getfield 27, 3), (.bipush 10, 2), (.invokestatic 30, 3), (.ifCond .eq 61, 3), (.aload_n 0, 1), (.getfield 23, 3), (.iload_n 1, 1), (.invokestatic 34, 3), (.istore_n 3, 1), (.aload_n 0, 1), (.getfield 9, 3), (.aload_n 0, 1), (.getfield 27, 3), (.iload_n 1, 1), (.iastore, 1), (.aload_n 0, 1), (.getfield 15, 3), (.aload_n 0, 1), (.getfield 27, 3), (.iload_n 2, 1), (.iastore, 1), (.aload_n 0, 1), (.getfield 18, 3), (.aload_n 0, 1), (.getfield 27, 3), (.iload_n 3, 1), (.iastore, 1), (.aload_n 0, 1), (.iload_n 3, 1), (.iload_n 2, 1), (.invokestatic 38, 3), (.putfield 23, 3), (.aload_n 0, 1), (.dup, 1), (.getfield 27, 3), (.iconst 1, 1), (.iadd, 1), (.putfield 27, 3)]
  | 70 => [(.aload_n 0, 1), (.getfield 27, 3), (.ireturn, 1)]
  | _ => []
def uX6_append : Nat → Option (List Bool)
  | _ => none
def aX6_append : pvCa
  | 30 => some (2, true, 0, 0, C_X9_isIndex)
  | 34 => some (2, true, 0, 0, C_X7_later)
  | 38 => some (2, true, 0, 0, C_X7_withZero)
  | _ => none
theorem bX6_append_0 : bX6_append 0 = [(.aload_n 0, 1), (.getfield 27, 3), (.bipush 10, 2), (.invokestatic 30, 3), (.ifCond .eq 61, 3), (.aload_n 0, 1), (.getfield 23, 3), (.iload_n 1, 1), (.invokestatic 34, 3), (.istore_n 3, 1), (.aload_n 0, 1), (.getfield 9, 3), (.aload_n 0, 1), (.getfield 27, 3), (.iload_n 1, 1), (.iastore, 1), (.aload_n 0, 1), (.getfield 15, 3), (.aload_n 0, 1), (.getfield 27, 3), (.iload_n 2, 1), (.iastore, 1), (.aload_n 0, 1), (.getfield 18, 3), (.aload_n 0, 1), (.getfield 27, 3), (.iload_n 3, 1), (.iastore, 1), (.aload_n 0, 1), (.iload_n 3, 1), (.iload_n 2, 1), (.invokestatic 38, 3), (.putfield 23, 3), (.aload_n 0, 1), (.dup, 1), (.getfield 27, 3), (.iconst 1, 1), (.iadd, 1), (.putfield 27, 3)] := rfl
theorem uX6_append_0 : uX6_append 0 = none := rfl
theorem bX6_append_70 : bX6_append 70 = [(.aload_n 0, 1), (.getfield 27, 3), (.ireturn, 1)] := rfl
theorem uX6_append_70 : uX6_append 70 = none := rfl
theorem aX6_append_30 : aX6_append 30 = some (2, true, 0, 0, C_X9_isIndex) := rfl
theorem aX6_append_34 : aX6_append 34 = some (2, true, 0, 0, C_X7_later) := rfl
theorem aX6_append_38 : aX6_append 38 = some (2, true, 0, 0, C_X7_withZero) := rfl
set_option maxRecDepth 100000 in
set_option maxHeartbeats 4000000 in
theorem okX6_append : pvOkM fX6 aX6_append kX6 eX6 (some .int) bX6_append uX6_append 4 C_X6_append := by
  intro Q SW hc as z h hS hz
  unfold C_X6_append at h
  split at h
  · rename_i id d l
    obtain ⟨rfl, h1, h2⟩ := h
    have e := psF_r (v := z.1 20 3) (d := d) (by omega)
    refine ⟨Nat.le_of_ble_eq_true rfl, hc 20 _ _ _ fun _ _ => ?_⟩
    clear hc hS
    simp only [pvSt1]
    simp only [C_X9_isIndex, C_X7_later, C_X7_withZero, pvE_aload_n0, pvLA_s, pvLd, pvE_getfield, pvGf_0, pvGf_1, pvGf_2, fX6_27, pvSh_0, pvSh_1, pvSh_2, pvSh_3, pvSh_4, pvSh_5, pvSh_6, pvSh_7, pvSh_8, pvSh_9, pvSh_10, pvSh_11, pvSh_12, pvSh_13, pvSh_14, pvSh_15, pvSh_16, pvSh_17, pvSh_18, pvSh_19, pvSh_20, pvSh_21, pvSh_22, pvSh_23, pvSh_24, pvSh_25, pvSh_26, pvSh_27, pvSh_28, pvSh_29, pvSh_30, pvSh_31, pvSh_32, pvSh_33, pvSh_34, pvSh_35, pvSh_36, pvSh_37, pvSh_38, pvRf_0_0, pvRf_0_1, pvRf_0_2, pvRf_0_3, pvRf_0_4, pvRf_0_5, pvRf_0_6, pvRf_0_7, pvRf_0_8, pvRf_0_9, pvRf_0_10, pvRf_1_0, pvRf_3_0, pvRf_5_0, pvRf_5_1, pvRf_5_2, pvRf_9_0, pvRf_9_1, pvRf_9_2, pvRf_13_0, pvRf_13_1, pvRf_13_2, pvRf_17_0, pvRf_17_2, pvRf_20_0, pvRf_20_1, pvRf_20_2, pvRf_24_0, pvRf_24_1, pvRf_24_2, pvRf_28_0, pvRf_28_1, pvRf_28_2, pvRf_28_3, pvRf_33_0, pvRf_33_1, pvRf_36_0, pvRf_36_1, pvE_bipush, pvE_invokestatic (h0 := eX6_30), pvC1_s, pvC2_s, pvAf_v, pvAf_x, pvPop, pvCs, pvCat, pvPush, aX6_append_30, pvE_if_eq, fX6_23, pvE_iload_n1, pvLI_s, pvE_invokestatic (h0 := eX6_34), aX6_append_34, pvE_istore_n3, pvS1, List.length_cons, List.length_nil, pvClr_i, pvClr_r, pvClr_l, pvClr_d, pvClr_f, pvClr_n, fX6_9, pvE_iastore, pvAI, fX6_15, pvE_iload_n2, fX6_18, pvE_iload_n3, pvE_invokestatic (h0 := eX6_38), aX6_append_38, pvE_putfield, pvPf_0, pvPf_1, pvE_dup_i, pvE_dup_r, pvE_iconst, pvE_iadd, pvE_ireturn, bX6_append_0, uX6_append_0, bX6_append_70, uX6_append_70, pvRtG, pvRecv_r, pvUp_nl, pvUp_same, pvUp_ap, pvSt_ap, pvX_c, pvX_ms, pvX_mn, pvE_nil, pvEn_i, pvEn_r, pvEn_l, pvEn_0, pvEn_s, pvRt, pvRv, pvTh, pvKc, pvGo, pvTgt, Int.toNat_natCast, false_and, and_false, true_and, and_true, if_true, if_false, reduceIte, reduceCtorEq, forall_const, false_or, or_false, true_or, or_true, ne_eq, not_true_eq_false, not_false_eq_true, implies_true, false_implies, Nat.reduceAdd, Nat.reduceSub, Nat.reduceMul, Nat.reduceEqDiff, Nat.reduceLT, Nat.reduceLeDiff, Int.reduceAdd, Int.reduceSub, Int.reduceMul, Int.reduceNeg, Int.reduceToNat, Int.reduceLE, Int.reduceLT, Int.reduceEq, Int.reduceNe, and_self]
    grind
  · exact h.elim
def C_X6_clear : pvC
  | [.inr (.inr (.inl id))], z, Q => id = 20 ∧ Q (.inl none) (pvUp (pvUp z.1 20 4 0) 20 3 215, z.2)
  | _, _, _ => False
def bX6_clear : Nat → List (Instr × Nat)
  | 0 => [(.aload_n 0, 1), (.iconst 0, 1), (.putfield 27, 3), (.aload_n 0, 1), (.sipush 215, 3), (.putfield 23, 3), (.return_, 1)]
  | _ => []
def uX6_clear : Nat → Option (List Bool)
  | _ => none
def aX6_clear : pvCa
  | _ => none
theorem bX6_clear_0 : bX6_clear 0 = [(.aload_n 0, 1), (.iconst 0, 1), (.putfield 27, 3), (.aload_n 0, 1), (.sipush 215, 3), (.putfield 23, 3), (.return_, 1)] := rfl
theorem uX6_clear_0 : uX6_clear 0 = none := rfl
set_option maxRecDepth 100000 in
set_option maxHeartbeats 4000000 in
theorem okX6_clear : pvOkM fX6 aX6_clear kX6 eX6 none bX6_clear uX6_clear 1 C_X6_clear := by
  intro Q SW hc as z h hS hz
  unfold C_X6_clear at h
  split at h
  · rename_i id
    obtain ⟨hid, h⟩ := h
    refine ⟨Nat.le_of_ble_eq_true rfl, hc 20 _ _ _ fun _ _ => ?_⟩
    clear hc hS
    subst hid
    (simp only [pvSt1]
     simp only [pvE_aload_n0, pvLA_s, pvLd, pvE_iconst, pvE_putfield, pvPf_0, pvPf_1, fX6_27, pvSh_0, pvSh_1, pvSh_2, pvSh_3, pvSh_4, pvSh_5, pvSh_6, pvSh_7, pvSh_8, pvSh_9, pvSh_10, pvSh_11, pvSh_12, pvSh_13, pvSh_14, pvSh_15, pvSh_16, pvSh_17, pvSh_18, pvSh_19, pvSh_20, pvSh_21, pvSh_22, pvSh_23, pvSh_24, pvSh_25, pvSh_26, pvSh_27, pvSh_28, pvSh_29, pvSh_30, pvSh_31, pvSh_32, pvSh_33, pvSh_34, pvSh_35, pvSh_36, pvSh_37, pvSh_38, pvE_sipush, fX6_23, pvE_return, bX6_clear_0, uX6_clear_0, pvRtG, pvRecv_r, pvUp_nl, pvUp_same, pvUp_ap, pvSt_ap, pvX_c, pvX_ms, pvX_mn, pvE_nil, pvEn_i, pvEn_r, pvEn_l, pvEn_0, pvEn_s, pvRt, pvRv, pvTh, pvKc, pvGo, pvTgt, Int.toNat_natCast, false_and, and_false, true_and, and_true, if_true, if_false, reduceIte, reduceCtorEq, forall_const, false_or, or_false, true_or, or_true, ne_eq, not_true_eq_false, not_false_eq_true, implies_true, false_implies, Nat.reduceAdd, Nat.reduceSub, Nat.reduceMul, Nat.reduceEqDiff, Nat.reduceLT, Nat.reduceLeDiff, Int.reduceAdd, Int.reduceSub, Int.reduceMul, Int.reduceNeg, Int.reduceToNat, Int.reduceLE, Int.reduceLT, Int.reduceEq, Int.reduceNe, and_self]
     grind)
  · exact h.elim
def C_X6_delayAt : pvC
  | [.inr (.inr (.inl id)), .inl i], z, Q => id = 20 ∧ (0 ≤ i ∧ i < 10) ∧ Q (.inl (some (vI (z.1 21 i.toNat)))) z
  | _, _, _ => False
def bX6_delayAt : Nat → List (Instr × Nat)
  | 0 => [(.iload_n 1, 1), (.aload_n 0, 1), (.getfield 9, 3), (.arraylength, 1), (.invokestatic 30, 3), (.ifCond .eq 12, 3), (.aload_n 0, 1), (.getfield 9, 3), (.iload_n 1, 1), (.iaload, 1), (.goto 4, 3)]
  | 21 => [(.iconst 0, 1)]
  | 22 => [(.ireturn, 1)]
  | _ => []
def uX6_delayAt : Nat → Option (List Bool)
  | _ => none
def aX6_delayAt : pvCa
  | 30 => some (2, true, 0, 0, C_X9_isIndex)
  | _ => none
theorem bX6_delayAt_0 : bX6_delayAt 0 = [(.iload_n 1, 1), (.aload_n 0, 1), (.getfield 9, 3), (.arraylength, 1), (.invokestatic 30, 3), (.ifCond .eq 12, 3), (.aload_n 0, 1), (.getfield 9, 3), (.iload_n 1, 1), (.iaload, 1), (.goto 4, 3)] := rfl
theorem uX6_delayAt_0 : uX6_delayAt 0 = none := rfl
theorem bX6_delayAt_21 : bX6_delayAt 21 = [(.iconst 0, 1)] := rfl
theorem uX6_delayAt_21 : uX6_delayAt 21 = none := rfl
theorem bX6_delayAt_22 : bX6_delayAt 22 = [(.ireturn, 1)] := rfl
theorem uX6_delayAt_22 : uX6_delayAt 22 = none := rfl
theorem aX6_delayAt_30 : aX6_delayAt 30 = some (2, true, 0, 0, C_X9_isIndex) := rfl
set_option maxRecDepth 100000 in
set_option maxHeartbeats 4000000 in
theorem okX6_delayAt : pvOkM fX6 aX6_delayAt kX6 eX6 (some .int) bX6_delayAt uX6_delayAt 2 C_X6_delayAt := by
  intro Q SW hc as z h hS hz
  unfold C_X6_delayAt at h
  split at h
  · rename_i id i
    obtain ⟨hid, h⟩ := h
    refine ⟨Nat.le_of_ble_eq_true rfl, hc 20 _ _ _ fun _ _ => ?_⟩
    clear hc hS
    subst hid
    (simp only [pvSt1]
     simp only [C_X9_isIndex, pvE_iload_n1, pvLI_s, pvLd, pvE_aload_n0, pvLA_s, pvE_getfield, pvGf_0, pvGf_1, pvGf_2, fX6_9, pvSh_0, pvSh_1, pvSh_2, pvSh_3, pvSh_4, pvSh_5, pvSh_6, pvSh_7, pvSh_8, pvSh_9, pvSh_10, pvSh_11, pvSh_12, pvSh_13, pvSh_14, pvSh_15, pvSh_16, pvSh_17, pvSh_18, pvSh_19, pvSh_20, pvSh_21, pvSh_22, pvSh_23, pvSh_24, pvSh_25, pvSh_26, pvSh_27, pvSh_28, pvSh_29, pvSh_30, pvSh_31, pvSh_32, pvSh_33, pvSh_34, pvSh_35, pvSh_36, pvSh_37, pvSh_38, pvRf_0_0, pvRf_0_1, pvRf_0_2, pvRf_0_3, pvRf_0_4, pvRf_0_5, pvRf_0_6, pvRf_0_7, pvRf_0_8, pvRf_0_9, pvRf_0_10, pvRf_1_0, pvRf_3_0, pvRf_5_0, pvRf_5_1, pvRf_5_2, pvRf_9_0, pvRf_9_1, pvRf_9_2, pvRf_13_0, pvRf_13_1, pvRf_13_2, pvRf_17_0, pvRf_17_2, pvRf_20_0, pvRf_20_1, pvRf_20_2, pvRf_24_0, pvRf_24_1, pvRf_24_2, pvRf_28_0, pvRf_28_1, pvRf_28_2, pvRf_28_3, pvRf_33_0, pvRf_33_1, pvRf_36_0, pvRf_36_1, pvE_arraylength, pvAn, pvE_invokestatic (h0 := eX6_30), pvC1_s, pvC2_s, pvAf_v, pvAf_x, pvPop, pvCs, pvCat, pvPush, aX6_delayAt_30, pvE_if_eq, pvE_iaload, pvAI, pvE_goto, pvE_iconst, pvE_ireturn, bX6_delayAt_0, uX6_delayAt_0, bX6_delayAt_21, uX6_delayAt_21, bX6_delayAt_22, uX6_delayAt_22, pvRtG, pvRecv_r, pvUp_nl, pvUp_same, pvUp_ap, pvSt_ap, pvX_c, pvX_ms, pvX_mn, pvE_nil, pvEn_i, pvEn_r, pvEn_l, pvEn_0, pvEn_s, pvRt, pvRv, pvTh, pvKc, pvGo, pvTgt, Int.toNat_natCast, false_and, and_false, true_and, and_true, if_true, if_false, reduceIte, reduceCtorEq, forall_const, false_or, or_false, true_or, or_true, ne_eq, not_true_eq_false, not_false_eq_true, implies_true, false_implies, Nat.reduceAdd, Nat.reduceSub, Nat.reduceMul, Nat.reduceEqDiff, Nat.reduceLT, Nat.reduceLeDiff, Int.reduceAdd, Int.reduceSub, Int.reduceMul, Int.reduceNeg, Int.reduceToNat, Int.reduceLE, Int.reduceLT, Int.reduceEq, Int.reduceNe, and_self]
     grind)
  · exact h.elim
def C_X6_letterAt : pvC
  | [.inr (.inr (.inl id)), .inl i], z, Q => id = 20 ∧ (0 ≤ i ∧ i < 10) ∧ Q (.inl (some (vI (z.1 22 i.toNat)))) z
  | _, _, _ => False
def bX6_letterAt : Nat → List (Instr × Nat)
  | 0 => [(.iload_n 1, 1), (.aload_n 0, 1), (.getfield 15, 3), (.arraylength, 1), (.invokestatic 30, 3), (.ifCond .eq 12, 3), (.aload_n 0, 1), (.getfield 15, 3), (.iload_n 1, 1), (.iaload, 1), (.goto 4, 3)]
  | 21 => [(.iconst 0, 1)]
  | 22 => [(.ireturn, 1)]
  | _ => []
def uX6_letterAt : Nat → Option (List Bool)
  | _ => none
def aX6_letterAt : pvCa
  | 30 => some (2, true, 0, 0, C_X9_isIndex)
  | _ => none
theorem bX6_letterAt_0 : bX6_letterAt 0 = [(.iload_n 1, 1), (.aload_n 0, 1), (.getfield 15, 3), (.arraylength, 1), (.invokestatic 30, 3), (.ifCond .eq 12, 3), (.aload_n 0, 1), (.getfield 15, 3), (.iload_n 1, 1), (.iaload, 1), (.goto 4, 3)] := rfl
theorem uX6_letterAt_0 : uX6_letterAt 0 = none := rfl
theorem bX6_letterAt_21 : bX6_letterAt 21 = [(.iconst 0, 1)] := rfl
theorem uX6_letterAt_21 : uX6_letterAt 21 = none := rfl
theorem bX6_letterAt_22 : bX6_letterAt 22 = [(.ireturn, 1)] := rfl
theorem uX6_letterAt_22 : uX6_letterAt 22 = none := rfl
theorem aX6_letterAt_30 : aX6_letterAt 30 = some (2, true, 0, 0, C_X9_isIndex) := rfl
set_option maxRecDepth 100000 in
set_option maxHeartbeats 4000000 in
theorem okX6_letterAt : pvOkM fX6 aX6_letterAt kX6 eX6 (some .int) bX6_letterAt uX6_letterAt 2 C_X6_letterAt := by
  intro Q SW hc as z h hS hz
  unfold C_X6_letterAt at h
  split at h
  · rename_i id i
    obtain ⟨hid, h⟩ := h
    refine ⟨Nat.le_of_ble_eq_true rfl, hc 20 _ _ _ fun _ _ => ?_⟩
    clear hc hS
    subst hid
    (simp only [pvSt1]
     simp only [C_X9_isIndex, pvE_iload_n1, pvLI_s, pvLd, pvE_aload_n0, pvLA_s, pvE_getfield, pvGf_0, pvGf_1, pvGf_2, fX6_15, pvSh_0, pvSh_1, pvSh_2, pvSh_3, pvSh_4, pvSh_5, pvSh_6, pvSh_7, pvSh_8, pvSh_9, pvSh_10, pvSh_11, pvSh_12, pvSh_13, pvSh_14, pvSh_15, pvSh_16, pvSh_17, pvSh_18, pvSh_19, pvSh_20, pvSh_21, pvSh_22, pvSh_23, pvSh_24, pvSh_25, pvSh_26, pvSh_27, pvSh_28, pvSh_29, pvSh_30, pvSh_31, pvSh_32, pvSh_33, pvSh_34, pvSh_35, pvSh_36, pvSh_37, pvSh_38, pvRf_0_0, pvRf_0_1, pvRf_0_2, pvRf_0_3, pvRf_0_4, pvRf_0_5, pvRf_0_6, pvRf_0_7, pvRf_0_8, pvRf_0_9, pvRf_0_10, pvRf_1_0, pvRf_3_0, pvRf_5_0, pvRf_5_1, pvRf_5_2, pvRf_9_0, pvRf_9_1, pvRf_9_2, pvRf_13_0, pvRf_13_1, pvRf_13_2, pvRf_17_0, pvRf_17_2, pvRf_20_0, pvRf_20_1, pvRf_20_2, pvRf_24_0, pvRf_24_1, pvRf_24_2, pvRf_28_0, pvRf_28_1, pvRf_28_2, pvRf_28_3, pvRf_33_0, pvRf_33_1, pvRf_36_0, pvRf_36_1, pvE_arraylength, pvAn, pvE_invokestatic (h0 := eX6_30), pvC1_s, pvC2_s, pvAf_v, pvAf_x, pvPop, pvCs, pvCat, pvPush, aX6_letterAt_30, pvE_if_eq, pvE_iaload, pvAI, pvE_goto, pvE_iconst, pvE_ireturn, bX6_letterAt_0, uX6_letterAt_0, bX6_letterAt_21, uX6_letterAt_21, bX6_letterAt_22, uX6_letterAt_22, pvRtG, pvRecv_r, pvUp_nl, pvUp_same, pvUp_ap, pvSt_ap, pvX_c, pvX_ms, pvX_mn, pvE_nil, pvEn_i, pvEn_r, pvEn_l, pvEn_0, pvEn_s, pvRt, pvRv, pvTh, pvKc, pvGo, pvTgt, Int.toNat_natCast, false_and, and_false, true_and, and_true, if_true, if_false, reduceIte, reduceCtorEq, forall_const, false_or, or_false, true_or, or_true, ne_eq, not_true_eq_false, not_false_eq_true, implies_true, false_implies, Nat.reduceAdd, Nat.reduceSub, Nat.reduceMul, Nat.reduceEqDiff, Nat.reduceLT, Nat.reduceLeDiff, Int.reduceAdd, Int.reduceSub, Int.reduceMul, Int.reduceNeg, Int.reduceToNat, Int.reduceLE, Int.reduceLT, Int.reduceEq, Int.reduceNe, and_self]
     grind)
  · exact h.elim
def C_X6_valuationAt : pvC
  | [.inr (.inr (.inl id)), .inl i], z, Q => id = 20 ∧ (0 ≤ i ∧ i < 10) ∧ Q (.inl (some (vI (z.1 23 i.toNat)))) z
  | _, _, _ => False
def bX6_valuationAt : Nat → List (Instr × Nat)
  | 0 => [(.iload_n 1, 1), (.aload_n 0, 1), (.getfield 18, 3), (.arraylength, 1), (.invokestatic 30, 3), (.ifCond .eq 12, 3), (.aload_n 0, 1), (.getfield 18, 3), (.iload_n 1, 1), (.iaload, 1), (.goto 6, 3)]
  | 21 => [(.sipush 215, 3)]
  | 24 => [(.ireturn, 1)]
  | _ => []
def uX6_valuationAt : Nat → Option (List Bool)
  | _ => none
def aX6_valuationAt : pvCa
  | 30 => some (2, true, 0, 0, C_X9_isIndex)
  | _ => none
theorem bX6_valuationAt_0 : bX6_valuationAt 0 = [(.iload_n 1, 1), (.aload_n 0, 1), (.getfield 18, 3), (.arraylength, 1), (.invokestatic 30, 3), (.ifCond .eq 12, 3), (.aload_n 0, 1), (.getfield 18, 3), (.iload_n 1, 1), (.iaload, 1), (.goto 6, 3)] := rfl
theorem uX6_valuationAt_0 : uX6_valuationAt 0 = none := rfl
theorem bX6_valuationAt_21 : bX6_valuationAt 21 = [(.sipush 215, 3)] := rfl
theorem uX6_valuationAt_21 : uX6_valuationAt 21 = none := rfl
theorem bX6_valuationAt_24 : bX6_valuationAt 24 = [(.ireturn, 1)] := rfl
theorem uX6_valuationAt_24 : uX6_valuationAt 24 = none := rfl
theorem aX6_valuationAt_30 : aX6_valuationAt 30 = some (2, true, 0, 0, C_X9_isIndex) := rfl
set_option maxRecDepth 100000 in
set_option maxHeartbeats 4000000 in
theorem okX6_valuationAt : pvOkM fX6 aX6_valuationAt kX6 eX6 (some .int) bX6_valuationAt uX6_valuationAt 2 C_X6_valuationAt := by
  intro Q SW hc as z h hS hz
  unfold C_X6_valuationAt at h
  split at h
  · rename_i id i
    obtain ⟨hid, h⟩ := h
    refine ⟨Nat.le_of_ble_eq_true rfl, hc 20 _ _ _ fun _ _ => ?_⟩
    clear hc hS
    subst hid
    (simp only [pvSt1]
     simp only [C_X9_isIndex, pvE_iload_n1, pvLI_s, pvLd, pvE_aload_n0, pvLA_s, pvE_getfield, pvGf_0, pvGf_1, pvGf_2, fX6_18, pvSh_0, pvSh_1, pvSh_2, pvSh_3, pvSh_4, pvSh_5, pvSh_6, pvSh_7, pvSh_8, pvSh_9, pvSh_10, pvSh_11, pvSh_12, pvSh_13, pvSh_14, pvSh_15, pvSh_16, pvSh_17, pvSh_18, pvSh_19, pvSh_20, pvSh_21, pvSh_22, pvSh_23, pvSh_24, pvSh_25, pvSh_26, pvSh_27, pvSh_28, pvSh_29, pvSh_30, pvSh_31, pvSh_32, pvSh_33, pvSh_34, pvSh_35, pvSh_36, pvSh_37, pvSh_38, pvRf_0_0, pvRf_0_1, pvRf_0_2, pvRf_0_3, pvRf_0_4, pvRf_0_5, pvRf_0_6, pvRf_0_7, pvRf_0_8, pvRf_0_9, pvRf_0_10, pvRf_1_0, pvRf_3_0, pvRf_5_0, pvRf_5_1, pvRf_5_2, pvRf_9_0, pvRf_9_1, pvRf_9_2, pvRf_13_0, pvRf_13_1, pvRf_13_2, pvRf_17_0, pvRf_17_2, pvRf_20_0, pvRf_20_1, pvRf_20_2, pvRf_24_0, pvRf_24_1, pvRf_24_2, pvRf_28_0, pvRf_28_1, pvRf_28_2, pvRf_28_3, pvRf_33_0, pvRf_33_1, pvRf_36_0, pvRf_36_1, pvE_arraylength, pvAn, pvE_invokestatic (h0 := eX6_30), pvC1_s, pvC2_s, pvAf_v, pvAf_x, pvPop, pvCs, pvCat, pvPush, aX6_valuationAt_30, pvE_if_eq, pvE_iaload, pvAI, pvE_goto, pvE_sipush, pvE_ireturn, bX6_valuationAt_0, uX6_valuationAt_0, bX6_valuationAt_21, uX6_valuationAt_21, bX6_valuationAt_24, uX6_valuationAt_24, pvRtG, pvRecv_r, pvUp_nl, pvUp_same, pvUp_ap, pvSt_ap, pvX_c, pvX_ms, pvX_mn, pvE_nil, pvEn_i, pvEn_r, pvEn_l, pvEn_0, pvEn_s, pvRt, pvRv, pvTh, pvKc, pvGo, pvTgt, Int.toNat_natCast, false_and, and_false, true_and, and_true, if_true, if_false, reduceIte, reduceCtorEq, forall_const, false_or, or_false, true_or, or_true, ne_eq, not_true_eq_false, not_false_eq_true, implies_true, false_implies, Nat.reduceAdd, Nat.reduceSub, Nat.reduceMul, Nat.reduceEqDiff, Nat.reduceLT, Nat.reduceLeDiff, Int.reduceAdd, Int.reduceSub, Int.reduceMul, Int.reduceNeg, Int.reduceToNat, Int.reduceLE, Int.reduceLT, Int.reduceEq, Int.reduceNe, and_self]
     grind)
  · exact h.elim
/-! the text -/
def C_X1_hasRoom : pvC
  | [.inr (.inr (.inl id))], z, Q => id = 17 ∧ (z.1 17 1 < 30 → Q (.inl (some (vI 1))) z) ∧ (¬ z.1 17 1 < 30 → Q (.inl (some (vI 0))) z)
  | _, _, _ => False
def bX1_hasRoom : Nat → List (Instr × Nat)
  | 0 => [(.aload_n 0, 1), (.getfield 15, 3), (.bipush 30, 2), (.if_icmp .ge 7, 3), (.iconst 1, 1), (.goto 4, 3)]
  | 13 => [(.iconst 0, 1)]
  | 14 => [(.ireturn, 1)]
  | _ => []
def uX1_hasRoom : Nat → Option (List Bool)
  | _ => none
def aX1_hasRoom : pvCa
  | _ => none
theorem bX1_hasRoom_0 : bX1_hasRoom 0 = [(.aload_n 0, 1), (.getfield 15, 3), (.bipush 30, 2), (.if_icmp .ge 7, 3), (.iconst 1, 1), (.goto 4, 3)] := rfl
theorem uX1_hasRoom_0 : uX1_hasRoom 0 = none := rfl
theorem bX1_hasRoom_13 : bX1_hasRoom 13 = [(.iconst 0, 1)] := rfl
theorem uX1_hasRoom_13 : uX1_hasRoom 13 = none := rfl
theorem bX1_hasRoom_14 : bX1_hasRoom 14 = [(.ireturn, 1)] := rfl
theorem uX1_hasRoom_14 : uX1_hasRoom 14 = none := rfl
set_option maxRecDepth 100000 in
set_option maxHeartbeats 4000000 in
theorem okX1_hasRoom : pvOkM fX1 aX1_hasRoom kX1 eX1 (some .boolean) bX1_hasRoom uX1_hasRoom 1 C_X1_hasRoom := by
  intro Q SW hc as z h hS hz
  unfold C_X1_hasRoom at h
  split at h
  · rename_i id
    obtain ⟨hid, h⟩ := h
    refine ⟨Nat.le_of_ble_eq_true rfl, hc 20 _ _ _ fun _ _ => ?_⟩
    clear hc hS
    subst hid
    (simp only [pvSt1]
     simp only [pvE_aload_n0, pvLA_s, pvLd, pvE_getfield, pvGf_0, pvGf_1, pvGf_2, fX1_15, pvSh_0, pvSh_1, pvSh_2, pvSh_3, pvSh_4, pvSh_5, pvSh_6, pvSh_7, pvSh_8, pvSh_9, pvSh_10, pvSh_11, pvSh_12, pvSh_13, pvSh_14, pvSh_15, pvSh_16, pvSh_17, pvSh_18, pvSh_19, pvSh_20, pvSh_21, pvSh_22, pvSh_23, pvSh_24, pvSh_25, pvSh_26, pvSh_27, pvSh_28, pvSh_29, pvSh_30, pvSh_31, pvSh_32, pvSh_33, pvSh_34, pvSh_35, pvSh_36, pvSh_37, pvSh_38, pvRf_0_0, pvRf_0_1, pvRf_0_2, pvRf_0_3, pvRf_0_4, pvRf_0_5, pvRf_0_6, pvRf_0_7, pvRf_0_8, pvRf_0_9, pvRf_0_10, pvRf_1_0, pvRf_3_0, pvRf_5_0, pvRf_5_1, pvRf_5_2, pvRf_9_0, pvRf_9_1, pvRf_9_2, pvRf_13_0, pvRf_13_1, pvRf_13_2, pvRf_17_0, pvRf_17_2, pvRf_20_0, pvRf_20_1, pvRf_20_2, pvRf_24_0, pvRf_24_1, pvRf_24_2, pvRf_28_0, pvRf_28_1, pvRf_28_2, pvRf_28_3, pvRf_33_0, pvRf_33_1, pvRf_36_0, pvRf_36_1, pvE_bipush, pvE_icmp_ge, pvE_iconst, pvE_goto, pvE_ireturn, bX1_hasRoom_0, uX1_hasRoom_0, bX1_hasRoom_13, uX1_hasRoom_13, bX1_hasRoom_14, uX1_hasRoom_14, pvRtG, pvRecv_r, pvUp_nl, pvUp_same, pvUp_ap, pvSt_ap, pvX_c, pvX_ms, pvX_mn, pvE_nil, pvEn_i, pvEn_r, pvEn_l, pvEn_0, pvEn_s, pvRt, pvRv, pvTh, pvKc, pvGo, pvTgt, Int.toNat_natCast, false_and, and_false, true_and, and_true, if_true, if_false, reduceIte, reduceCtorEq, forall_const, false_or, or_false, true_or, or_true, ne_eq, not_true_eq_false, not_false_eq_true, implies_true, false_implies, Nat.reduceAdd, Nat.reduceSub, Nat.reduceMul, Nat.reduceEqDiff, Nat.reduceLT, Nat.reduceLeDiff, Int.reduceAdd, Int.reduceSub, Int.reduceMul, Int.reduceNeg, Int.reduceToNat, Int.reduceLE, Int.reduceLT, Int.reduceEq, Int.reduceNe, and_self]
     grind)
  · exact h.elim
def C_X1_append : pvC
  | [.inr (.inr (.inl id)), .inl c], z, Q => id = 17 ∧ (0 ≤ z.1 17 1 ∧ z.1 17 1 < 30) ∧ Q (.inl (some (vI (z.1 17 1 + 1)))) (pvUp (pvUp z.1 18 (z.1 17 1).toNat c) 17 1 (z.1 17 1 + 1), z.2)
  | _, _, _ => False
def bX1_append : Nat → List (Instr × Nat)
  | 0 => [(.aload_n 0, 1), (.getfield 15, 3), (.aload_n 0, 1), (.getfield 9, 3), (.arraylength, 1), (.invokestatic 28, 3), (.ifCond .eq 23, 3), (.aload_n 0, 1), (.getfield 9, 3), (.aload_n 0, 1), (.getfield 15, 3), (.iload_n 1, 1), (.iastore, 1), (.aload_n 0, 1), (.dup, 1), (.getfield 15, 3), (.iconst 1, 1), (.iadd, 1), (.putfield 15, 3)]
  | 35 => [(.aload_n 0, 1), (.getfield 15, 3), (.ireturn, 1)]
  | _ => []
def uX1_append : Nat → Option (List Bool)
  | _ => none
def aX1_append : pvCa
  | 28 => some (2, true, 0, 0, C_X9_isIndex)
  | _ => none
theorem bX1_append_0 : bX1_append 0 = [(.aload_n 0, 1), (.getfield 15, 3), (.aload_n 0, 1), (.getfield 9, 3), (.arraylength, 1), (.invokestatic 28, 3), (.ifCond .eq 23, 3), (.aload_n 0, 1), (.getfield 9, 3), (.aload_n 0, 1), (.getfield 15, 3), (.iload_n 1, 1), (.iastore, 1), (.aload_n 0, 1), (.dup, 1), (.getfield 15, 3), (.iconst 1, 1), (.iadd, 1), (.putfield 15, 3)] := rfl
theorem uX1_append_0 : uX1_append 0 = none := rfl
theorem bX1_append_35 : bX1_append 35 = [(.aload_n 0, 1), (.getfield 15, 3), (.ireturn, 1)] := rfl
theorem uX1_append_35 : uX1_append 35 = none := rfl
theorem aX1_append_28 : aX1_append 28 = some (2, true, 0, 0, C_X9_isIndex) := rfl
set_option maxRecDepth 100000 in
set_option maxHeartbeats 4000000 in
theorem okX1_append : pvOkM fX1 aX1_append kX1 eX1 (some .int) bX1_append uX1_append 2 C_X1_append := by
  intro Q SW hc as z h hS hz
  unfold C_X1_append at h
  split at h
  · rename_i id c
    obtain ⟨hid, h⟩ := h
    refine ⟨Nat.le_of_ble_eq_true rfl, hc 20 _ _ _ fun _ _ => ?_⟩
    clear hc hS
    subst hid
    (simp only [pvSt1]
     simp only [C_X9_isIndex, pvE_aload_n0, pvLA_s, pvLd, pvE_getfield, pvGf_0, pvGf_1, pvGf_2, fX1_15, pvSh_0, pvSh_1, pvSh_2, pvSh_3, pvSh_4, pvSh_5, pvSh_6, pvSh_7, pvSh_8, pvSh_9, pvSh_10, pvSh_11, pvSh_12, pvSh_13, pvSh_14, pvSh_15, pvSh_16, pvSh_17, pvSh_18, pvSh_19, pvSh_20, pvSh_21, pvSh_22, pvSh_23, pvSh_24, pvSh_25, pvSh_26, pvSh_27, pvSh_28, pvSh_29, pvSh_30, pvSh_31, pvSh_32, pvSh_33, pvSh_34, pvSh_35, pvSh_36, pvSh_37, pvSh_38, pvRf_0_0, pvRf_0_1, pvRf_0_2, pvRf_0_3, pvRf_0_4, pvRf_0_5, pvRf_0_6, pvRf_0_7, pvRf_0_8, pvRf_0_9, pvRf_0_10, pvRf_1_0, pvRf_3_0, pvRf_5_0, pvRf_5_1, pvRf_5_2, pvRf_9_0, pvRf_9_1, pvRf_9_2, pvRf_13_0, pvRf_13_1, pvRf_13_2, pvRf_17_0, pvRf_17_2, pvRf_20_0, pvRf_20_1, pvRf_20_2, pvRf_24_0, pvRf_24_1, pvRf_24_2, pvRf_28_0, pvRf_28_1, pvRf_28_2, pvRf_28_3, pvRf_33_0, pvRf_33_1, pvRf_36_0, pvRf_36_1, fX1_9, pvE_arraylength, pvAn, pvE_invokestatic (h0 := eX1_28), pvC1_s, pvC2_s, pvAf_v, pvAf_x, pvPop, pvCs, pvCat, pvPush, aX1_append_28, pvE_if_eq, pvE_iload_n1, pvLI_s, pvE_iastore, pvAI, pvE_dup_i, pvE_dup_r, pvE_iconst, pvE_iadd, pvE_putfield, pvPf_0, pvPf_1, pvE_ireturn, bX1_append_0, uX1_append_0, bX1_append_35, uX1_append_35, pvRtG, pvRecv_r, pvUp_nl, pvUp_same, pvUp_ap, pvSt_ap, pvX_c, pvX_ms, pvX_mn, pvE_nil, pvEn_i, pvEn_r, pvEn_l, pvEn_0, pvEn_s, pvRt, pvRv, pvTh, pvKc, pvGo, pvTgt, Int.toNat_natCast, false_and, and_false, true_and, and_true, if_true, if_false, reduceIte, reduceCtorEq, forall_const, false_or, or_false, true_or, or_true, ne_eq, not_true_eq_false, not_false_eq_true, implies_true, false_implies, Nat.reduceAdd, Nat.reduceSub, Nat.reduceMul, Nat.reduceEqDiff, Nat.reduceLT, Nat.reduceLeDiff, Int.reduceAdd, Int.reduceSub, Int.reduceMul, Int.reduceNeg, Int.reduceToNat, Int.reduceLE, Int.reduceLT, Int.reduceEq, Int.reduceNe, and_self]
     grind)
  · exact h.elim
def C_X1_characterAt : pvC
  | [.inr (.inr (.inl id)), .inl i], z, Q => id = 17 ∧ (0 ≤ z.1 17 1 ∧ z.1 17 1 ≤ 30 ∧ 0 ≤ i) ∧ Q (.inl (some (vI (if i < z.1 17 1 then z.1 18 i.toNat else 0)))) z
  | _, _, _ => False
def bX1_characterAt : Nat → List (Instr × Nat)
  | 0 => [(.iload_n 1, 1), (.aload_n 0, 1), (.getfield 15, 3), (.invokestatic 28, 3), (.ifCond .eq 21, 3), (.iload_n 1, 1), (.aload_n 0, 1), (.getfield 9, 3), (.arraylength, 1), (.if_icmp .ge 12, 3), (.aload_n 0, 1), (.getfield 9, 3), (.iload_n 1, 1), (.iaload, 1), (.goto 4, 3)]
  | 29 => [(.iconst 0, 1)]
  | 30 => [(.ireturn, 1)]
  | _ => []
def uX1_characterAt : Nat → Option (List Bool)
  | _ => none
def aX1_characterAt : pvCa
  | 28 => some (2, true, 0, 0, C_X9_isIndex)
  | _ => none
theorem bX1_characterAt_0 : bX1_characterAt 0 = [(.iload_n 1, 1), (.aload_n 0, 1), (.getfield 15, 3), (.invokestatic 28, 3), (.ifCond .eq 21, 3), (.iload_n 1, 1), (.aload_n 0, 1), (.getfield 9, 3), (.arraylength, 1), (.if_icmp .ge 12, 3), (.aload_n 0, 1), (.getfield 9, 3), (.iload_n 1, 1), (.iaload, 1), (.goto 4, 3)] := rfl
theorem uX1_characterAt_0 : uX1_characterAt 0 = none := rfl
theorem bX1_characterAt_29 : bX1_characterAt 29 = [(.iconst 0, 1)] := rfl
theorem uX1_characterAt_29 : uX1_characterAt 29 = none := rfl
theorem bX1_characterAt_30 : bX1_characterAt 30 = [(.ireturn, 1)] := rfl
theorem uX1_characterAt_30 : uX1_characterAt 30 = none := rfl
theorem aX1_characterAt_28 : aX1_characterAt 28 = some (2, true, 0, 0, C_X9_isIndex) := rfl
set_option maxRecDepth 100000 in
set_option maxHeartbeats 4000000 in
theorem okX1_characterAt : pvOkM fX1 aX1_characterAt kX1 eX1 (some .int) bX1_characterAt uX1_characterAt 2 C_X1_characterAt := by
  intro Q SW hc as z h hS hz
  unfold C_X1_characterAt at h
  split at h
  · rename_i id i
    obtain ⟨hid, h⟩ := h
    refine ⟨Nat.le_of_ble_eq_true rfl, hc 20 _ _ _ fun _ _ => ?_⟩
    clear hc hS
    subst hid
    (simp only [pvSt1]
     simp only [C_X9_isIndex, pvE_iload_n1, pvLI_s, pvLd, pvE_aload_n0, pvLA_s, pvE_getfield, pvGf_0, pvGf_1, pvGf_2, fX1_15, pvSh_0, pvSh_1, pvSh_2, pvSh_3, pvSh_4, pvSh_5, pvSh_6, pvSh_7, pvSh_8, pvSh_9, pvSh_10, pvSh_11, pvSh_12, pvSh_13, pvSh_14, pvSh_15, pvSh_16, pvSh_17, pvSh_18, pvSh_19, pvSh_20, pvSh_21, pvSh_22, pvSh_23, pvSh_24, pvSh_25, pvSh_26, pvSh_27, pvSh_28, pvSh_29, pvSh_30, pvSh_31, pvSh_32, pvSh_33, pvSh_34, pvSh_35, pvSh_36, pvSh_37, pvSh_38, pvRf_0_0, pvRf_0_1, pvRf_0_2, pvRf_0_3, pvRf_0_4, pvRf_0_5, pvRf_0_6, pvRf_0_7, pvRf_0_8, pvRf_0_9, pvRf_0_10, pvRf_1_0, pvRf_3_0, pvRf_5_0, pvRf_5_1, pvRf_5_2, pvRf_9_0, pvRf_9_1, pvRf_9_2, pvRf_13_0, pvRf_13_1, pvRf_13_2, pvRf_17_0, pvRf_17_2, pvRf_20_0, pvRf_20_1, pvRf_20_2, pvRf_24_0, pvRf_24_1, pvRf_24_2, pvRf_28_0, pvRf_28_1, pvRf_28_2, pvRf_28_3, pvRf_33_0, pvRf_33_1, pvRf_36_0, pvRf_36_1, pvE_invokestatic (h0 := eX1_28), pvC1_s, pvC2_s, pvAf_v, pvAf_x, pvPop, pvCs, pvCat, pvPush, aX1_characterAt_28, pvE_if_eq, fX1_9, pvE_arraylength, pvAn, pvE_icmp_ge, pvE_iaload, pvAI, pvE_goto, pvE_iconst, pvE_ireturn, bX1_characterAt_0, uX1_characterAt_0, bX1_characterAt_29, uX1_characterAt_29, bX1_characterAt_30, uX1_characterAt_30, pvRtG, pvRecv_r, pvUp_nl, pvUp_same, pvUp_ap, pvSt_ap, pvX_c, pvX_ms, pvX_mn, pvE_nil, pvEn_i, pvEn_r, pvEn_l, pvEn_0, pvEn_s, pvRt, pvRv, pvTh, pvKc, pvGo, pvTgt, Int.toNat_natCast, false_and, and_false, true_and, and_true, if_true, if_false, reduceIte, reduceCtorEq, forall_const, false_or, or_false, true_or, or_true, ne_eq, not_true_eq_false, not_false_eq_true, implies_true, false_implies, Nat.reduceAdd, Nat.reduceSub, Nat.reduceMul, Nat.reduceEqDiff, Nat.reduceLT, Nat.reduceLeDiff, Int.reduceAdd, Int.reduceSub, Int.reduceMul, Int.reduceNeg, Int.reduceToNat, Int.reduceLE, Int.reduceLT, Int.reduceEq, Int.reduceNe, and_self]
     grind)
  · exact h.elim
def C_X1_stopAt : pvC
  | [.inr (.inr (.inl id)), .inl i], z, Q => id = 17 ∧ Q (.inl (some (vI i))) (pvUp z.1 17 4 i, z.2)
  | _, _, _ => False
def bX1_stopAt : Nat → List (Instr × Nat)
  | 0 => [(.aload_n 0, 1), (.iload_n 1, 1), (.putfield 25, 3), (.iload_n 1, 1), (.ireturn, 1)]
  | _ => []
def uX1_stopAt : Nat → Option (List Bool)
  | _ => none
def aX1_stopAt : pvCa
  | _ => none
theorem bX1_stopAt_0 : bX1_stopAt 0 = [(.aload_n 0, 1), (.iload_n 1, 1), (.putfield 25, 3), (.iload_n 1, 1), (.ireturn, 1)] := rfl
theorem uX1_stopAt_0 : uX1_stopAt 0 = none := rfl
set_option maxRecDepth 100000 in
set_option maxHeartbeats 4000000 in
theorem okX1_stopAt : pvOkM fX1 aX1_stopAt kX1 eX1 (some .int) bX1_stopAt uX1_stopAt 2 C_X1_stopAt := by
  intro Q SW hc as z h hS hz
  unfold C_X1_stopAt at h
  split at h
  · rename_i id i
    obtain ⟨hid, h⟩ := h
    refine ⟨Nat.le_of_ble_eq_true rfl, hc 20 _ _ _ fun _ _ => ?_⟩
    clear hc hS
    subst hid
    (simp only [pvSt1]
     simp only [pvE_aload_n0, pvLA_s, pvLd, pvE_iload_n1, pvLI_s, pvE_putfield, pvPf_0, pvPf_1, fX1_25, pvSh_0, pvSh_1, pvSh_2, pvSh_3, pvSh_4, pvSh_5, pvSh_6, pvSh_7, pvSh_8, pvSh_9, pvSh_10, pvSh_11, pvSh_12, pvSh_13, pvSh_14, pvSh_15, pvSh_16, pvSh_17, pvSh_18, pvSh_19, pvSh_20, pvSh_21, pvSh_22, pvSh_23, pvSh_24, pvSh_25, pvSh_26, pvSh_27, pvSh_28, pvSh_29, pvSh_30, pvSh_31, pvSh_32, pvSh_33, pvSh_34, pvSh_35, pvSh_36, pvSh_37, pvSh_38, pvE_ireturn, bX1_stopAt_0, uX1_stopAt_0, pvRtG, pvRecv_r, pvUp_nl, pvUp_same, pvUp_ap, pvSt_ap, pvX_c, pvX_ms, pvX_mn, pvE_nil, pvEn_i, pvEn_r, pvEn_l, pvEn_0, pvEn_s, pvRt, pvRv, pvTh, pvKc, pvGo, pvTgt, Int.toNat_natCast, false_and, and_false, true_and, and_true, if_true, if_false, reduceIte, reduceCtorEq, forall_const, false_or, or_false, true_or, or_true, ne_eq, not_true_eq_false, not_false_eq_true, implies_true, false_implies, Nat.reduceAdd, Nat.reduceSub, Nat.reduceMul, Nat.reduceEqDiff, Nat.reduceLT, Nat.reduceLeDiff, Int.reduceAdd, Int.reduceSub, Int.reduceMul, Int.reduceNeg, Int.reduceToNat, Int.reduceLE, Int.reduceLT, Int.reduceEq, Int.reduceNe, and_self]
     grind)
  · exact h.elim
def C_X1_comparison : pvC
  | [.inl s, .inl o], z, Q => (o = 0 ∨ o = 1) ∧ Q (.inl (some (vI (if s = 60 then o else if s = 61 then 2 else 4 - o)))) z
  | _, _, _ => False
def bX1_comparison : Nat → List (Instr × Nat)
  | 0 => [(.iload_n 0, 1), (.bipush 60, 2), (.if_icmp .ne 13, 3), (.iload_n 1, 1), (.ifCond .eq 7, 3), (.iconst 1, 1), (.goto 4, 3)]
  | 14 => [(.iconst 0, 1)]
  | 15 => [(.ireturn, 1)]
  | 16 => [(.iload_n 0, 1), (.bipush 61, 2), (.if_icmp .ne 5, 3), (.iconst 2, 1), (.ireturn, 1)]
  | 24 => [(.iload_n 1, 1), (.ifCond .eq 7, 3), (.iconst 3, 1), (.goto 4, 3)]
  | 32 => [(.iconst 4, 1)]
  | 33 => [(.ireturn, 1)]
  | _ => []
def uX1_comparison : Nat → Option (List Bool)
  | _ => none
def aX1_comparison : pvCa
  | _ => none
theorem bX1_comparison_0 : bX1_comparison 0 = [(.iload_n 0, 1), (.bipush 60, 2), (.if_icmp .ne 13, 3), (.iload_n 1, 1), (.ifCond .eq 7, 3), (.iconst 1, 1), (.goto 4, 3)] := rfl
theorem uX1_comparison_0 : uX1_comparison 0 = none := rfl
theorem bX1_comparison_14 : bX1_comparison 14 = [(.iconst 0, 1)] := rfl
theorem uX1_comparison_14 : uX1_comparison 14 = none := rfl
theorem bX1_comparison_15 : bX1_comparison 15 = [(.ireturn, 1)] := rfl
theorem uX1_comparison_15 : uX1_comparison 15 = none := rfl
theorem bX1_comparison_16 : bX1_comparison 16 = [(.iload_n 0, 1), (.bipush 61, 2), (.if_icmp .ne 5, 3), (.iconst 2, 1), (.ireturn, 1)] := rfl
theorem uX1_comparison_16 : uX1_comparison 16 = none := rfl
theorem bX1_comparison_24 : bX1_comparison 24 = [(.iload_n 1, 1), (.ifCond .eq 7, 3), (.iconst 3, 1), (.goto 4, 3)] := rfl
theorem uX1_comparison_24 : uX1_comparison 24 = none := rfl
theorem bX1_comparison_32 : bX1_comparison 32 = [(.iconst 4, 1)] := rfl
theorem uX1_comparison_32 : uX1_comparison 32 = none := rfl
theorem bX1_comparison_33 : bX1_comparison 33 = [(.ireturn, 1)] := rfl
theorem uX1_comparison_33 : uX1_comparison 33 = none := rfl
set_option maxRecDepth 100000 in
set_option maxHeartbeats 4000000 in
theorem okX1_comparison : pvOkM fX1 aX1_comparison kX1 eX1 (some .int) bX1_comparison uX1_comparison 2 C_X1_comparison := by
  intro Q SW hc as z h hS hz
  unfold C_X1_comparison at h
  split at h
  · rename_i s o
    refine ⟨Nat.le_of_ble_eq_true rfl, hc 20 _ _ _ fun _ _ => ?_⟩
    clear hc hS
    simp only [pvSt1]
    simp only [pvE_iload_n0, pvLI_s, pvLd, pvE_bipush, pvE_icmp_ne, pvE_iload_n1, pvE_if_eq, pvE_iconst, pvE_goto, pvE_ireturn, bX1_comparison_0, uX1_comparison_0, bX1_comparison_14, uX1_comparison_14, bX1_comparison_15, uX1_comparison_15, bX1_comparison_16, uX1_comparison_16, bX1_comparison_24, uX1_comparison_24, bX1_comparison_32, uX1_comparison_32, bX1_comparison_33, uX1_comparison_33, pvRtG, pvRecv_r, pvUp_nl, pvUp_same, pvUp_ap, pvSt_ap, pvX_c, pvX_ms, pvX_mn, pvE_nil, pvEn_i, pvEn_r, pvEn_l, pvEn_0, pvEn_s, pvRt, pvRv, pvTh, pvKc, pvGo, pvTgt, Int.toNat_natCast, false_and, and_false, true_and, and_true, if_true, if_false, reduceIte, reduceCtorEq, forall_const, false_or, or_false, true_or, or_true, ne_eq, not_true_eq_false, not_false_eq_true, implies_true, false_implies, Nat.reduceAdd, Nat.reduceSub, Nat.reduceMul, Nat.reduceEqDiff, Nat.reduceLT, Nat.reduceLeDiff, Int.reduceAdd, Int.reduceSub, Int.reduceMul, Int.reduceNeg, Int.reduceToNat, Int.reduceLE, Int.reduceLT, Int.reduceEq, Int.reduceNe, and_self]
    grind
  · exact h.elim
def C_X1_addConstraint : pvC
  | [.inr (.inr (.inl id)), .inl a, .inl b, .inl c], z, Q => id = 17 ∧ (0 ≤ z.1 17 3 ∧ z.1 17 3 ≤ 3) ∧ Q (.inl none) (pvUp (pvUp (pvUp (pvUp z.1 19 (3 * z.1 17 3).toNat a) 19 (3 * z.1 17 3 + 1).toNat b) 19 (3 * z.1 17 3 + 2).toNat c) 17 3 (z.1 17 3 + 1), z.2)
  | _, _, _ => False
def bX1_addConstraint : Nat → List (Instr × Nat)
  | 0 => [(.iconst 3, 1), (.aload_n 0, 1), (.getfield 22, 3), (.imul, 1), (.istore 4, 2), (.iload 4, 2), (.aload_n 0, 1), (.getfield 19, 3), (.arraylength, 1), (.iconst 2, 1), (.isub, 1), (.invokestatic 28, 3), (.ifCond .eq 41, 3), (.aload_n 0, 1), (.getfield 19, 3), (.iload 4, 2), (.iload_n 1, 1), (.iastore, 1), (.aload_n 0, 1), (.getfield 19, 3), (.iload 4, 2), (.iconst 1, 1), (.iadd, 1), (.iload_n 2, 1), (.iastore, 1), (.aload_n 0, 1), (.getfield 19, 3), (.iload 4, 2), (.iconst 2, 1), (.iadd, 1), (.iload_n 3, 1), (.iastore, 1), (.aload_n 0, 1), (.dup, 1), (.getfield 22, 3), (.iconst 1, 1), (.iadd, 1), (.putfield 22, 3)]
  | 61 => [(.return_, 1)]
  | _ => []
def uX1_addConstraint : Nat → Option (List Bool)
  | _ => none
def aX1_addConstraint : pvCa
  | 28 => some (2, true, 0, 0, C_X9_isIndex)
  | _ => none
theorem bX1_addConstraint_0 : bX1_addConstraint 0 = [(.iconst 3, 1), (.aload_n 0, 1), (.getfield 22, 3), (.imul, 1), (.istore 4, 2), (.iload 4, 2), (.aload_n 0, 1), (.getfield 19, 3), (.arraylength, 1), (.iconst 2, 1), (.isub, 1), (.invokestatic 28, 3), (.ifCond .eq 41, 3), (.aload_n 0, 1), (.getfield 19, 3), (.iload 4, 2), (.iload_n 1, 1), (.iastore, 1), (.aload_n 0, 1), (.getfield 19, 3), (.iload 4, 2), (.iconst 1, 1), (.iadd, 1), (.iload_n 2, 1), (.iastore, 1), (.aload_n 0, 1), (.getfield 19, 3), (.iload 4, 2), (.iconst 2, 1), (.iadd, 1), (.iload_n 3, 1), (.iastore, 1), (.aload_n 0, 1), (.dup, 1), (.getfield 22, 3), (.iconst 1, 1), (.iadd, 1), (.putfield 22, 3)] := rfl
theorem uX1_addConstraint_0 : uX1_addConstraint 0 = none := rfl
theorem bX1_addConstraint_61 : bX1_addConstraint 61 = [(.return_, 1)] := rfl
theorem uX1_addConstraint_61 : uX1_addConstraint 61 = none := rfl
theorem aX1_addConstraint_28 : aX1_addConstraint 28 = some (2, true, 0, 0, C_X9_isIndex) := rfl
set_option maxRecDepth 100000 in
set_option maxHeartbeats 4000000 in
theorem okX1_addConstraint : pvOkM fX1 aX1_addConstraint kX1 eX1 none bX1_addConstraint uX1_addConstraint 5 C_X1_addConstraint := by
  intro Q SW hc as z h hS hz
  unfold C_X1_addConstraint at h
  split at h
  · rename_i id a b c
    obtain ⟨hid, h⟩ := h
    refine ⟨Nat.le_of_ble_eq_true rfl, hc 20 _ _ _ fun _ _ => ?_⟩
    clear hc hS
    subst hid
    (simp only [pvSt1]
     simp only [C_X9_isIndex, pvE_iconst, pvE_aload_n0, pvLA_s, pvLd, pvE_getfield, pvGf_0, pvGf_1, pvGf_2, fX1_22, pvSh_0, pvSh_1, pvSh_2, pvSh_3, pvSh_4, pvSh_5, pvSh_6, pvSh_7, pvSh_8, pvSh_9, pvSh_10, pvSh_11, pvSh_12, pvSh_13, pvSh_14, pvSh_15, pvSh_16, pvSh_17, pvSh_18, pvSh_19, pvSh_20, pvSh_21, pvSh_22, pvSh_23, pvSh_24, pvSh_25, pvSh_26, pvSh_27, pvSh_28, pvSh_29, pvSh_30, pvSh_31, pvSh_32, pvSh_33, pvSh_34, pvSh_35, pvSh_36, pvSh_37, pvSh_38, pvRf_0_0, pvRf_0_1, pvRf_0_2, pvRf_0_3, pvRf_0_4, pvRf_0_5, pvRf_0_6, pvRf_0_7, pvRf_0_8, pvRf_0_9, pvRf_0_10, pvRf_1_0, pvRf_3_0, pvRf_5_0, pvRf_5_1, pvRf_5_2, pvRf_9_0, pvRf_9_1, pvRf_9_2, pvRf_13_0, pvRf_13_1, pvRf_13_2, pvRf_17_0, pvRf_17_2, pvRf_20_0, pvRf_20_1, pvRf_20_2, pvRf_24_0, pvRf_24_1, pvRf_24_2, pvRf_28_0, pvRf_28_1, pvRf_28_2, pvRf_28_3, pvRf_33_0, pvRf_33_1, pvRf_36_0, pvRf_36_1, pvE_imul, pvE_istore, pvS1, List.length_cons, List.length_nil, pvClr_i, pvClr_r, pvClr_l, pvClr_d, pvClr_f, pvClr_n, pvE_iload, pvLI_s, fX1_19, pvE_arraylength, pvAn, pvE_isub, pvE_invokestatic (h0 := eX1_28), pvC1_s, pvC2_s, pvAf_v, pvAf_x, pvPop, pvCs, pvCat, pvPush, aX1_addConstraint_28, pvE_if_eq, pvE_iload_n1, pvE_iastore, pvAI, pvE_iadd, pvE_iload_n2, pvE_iload_n3, pvE_dup_i, pvE_dup_r, pvE_putfield, pvPf_0, pvPf_1, pvE_return, bX1_addConstraint_0, uX1_addConstraint_0, bX1_addConstraint_61, uX1_addConstraint_61, pvRtG, pvRecv_r, pvUp_nl, pvUp_same, pvUp_ap, pvSt_ap, pvX_c, pvX_ms, pvX_mn, pvE_nil, pvEn_i, pvEn_r, pvEn_l, pvEn_0, pvEn_s, pvRt, pvRv, pvTh, pvKc, pvGo, pvTgt, Int.toNat_natCast, false_and, and_false, true_and, and_true, if_true, if_false, reduceIte, reduceCtorEq, forall_const, false_or, or_false, true_or, or_true, ne_eq, not_true_eq_false, not_false_eq_true, implies_true, false_implies, Nat.reduceAdd, Nat.reduceSub, Nat.reduceMul, Nat.reduceEqDiff, Nat.reduceLT, Nat.reduceLeDiff, Int.reduceAdd, Int.reduceSub, Int.reduceMul, Int.reduceNeg, Int.reduceToNat, Int.reduceLE, Int.reduceLT, Int.reduceEq, Int.reduceNe, and_self]
     grind)
  · exact h.elim
def C_X1_numberAt : pvC
  | [.inr (.inr (.inl id)), .inl i, .inl c], z, Q => id = 17 ∧ (0 ≤ i ∧ i ≤ 3 ∧ 0 ≤ c ∧ c ≤ 2) ∧ Q (.inl (some (vI (z.1 19 (3 * i + c).toNat)))) z
  | _, _, _ => False
def bX1_numberAt : Nat → List (Instr × Nat)
  | 0 => [(.iconst 3, 1), (.iload_n 1, 1), (.imul, 1), (.iload_n 2, 1), (.iadd, 1), (.istore_n 3, 1), (.iload_n 3, 1), (.aload_n 0, 1), (.getfield 19, 3), (.arraylength, 1), (.invokestatic 28, 3), (.ifCond .eq 12, 3), (.aload_n 0, 1), (.getfield 19, 3), (.iload_n 3, 1), (.iaload, 1), (.goto 4, 3)]
  | 27 => [(.iconst 0, 1)]
  | 28 => [(.ireturn, 1)]
  | _ => []
def uX1_numberAt : Nat → Option (List Bool)
  | _ => none
def aX1_numberAt : pvCa
  | 28 => some (2, true, 0, 0, C_X9_isIndex)
  | _ => none
theorem bX1_numberAt_0 : bX1_numberAt 0 = [(.iconst 3, 1), (.iload_n 1, 1), (.imul, 1), (.iload_n 2, 1), (.iadd, 1), (.istore_n 3, 1), (.iload_n 3, 1), (.aload_n 0, 1), (.getfield 19, 3), (.arraylength, 1), (.invokestatic 28, 3), (.ifCond .eq 12, 3), (.aload_n 0, 1), (.getfield 19, 3), (.iload_n 3, 1), (.iaload, 1), (.goto 4, 3)] := rfl
theorem uX1_numberAt_0 : uX1_numberAt 0 = none := rfl
theorem bX1_numberAt_27 : bX1_numberAt 27 = [(.iconst 0, 1)] := rfl
theorem uX1_numberAt_27 : uX1_numberAt 27 = none := rfl
theorem bX1_numberAt_28 : bX1_numberAt 28 = [(.ireturn, 1)] := rfl
theorem uX1_numberAt_28 : uX1_numberAt 28 = none := rfl
theorem aX1_numberAt_28 : aX1_numberAt 28 = some (2, true, 0, 0, C_X9_isIndex) := rfl
set_option maxRecDepth 100000 in
set_option maxHeartbeats 4000000 in
theorem okX1_numberAt : pvOkM fX1 aX1_numberAt kX1 eX1 (some .int) bX1_numberAt uX1_numberAt 4 C_X1_numberAt := by
  intro Q SW hc as z h hS hz
  unfold C_X1_numberAt at h
  split at h
  · rename_i id i c
    obtain ⟨hid, h⟩ := h
    refine ⟨Nat.le_of_ble_eq_true rfl, hc 20 _ _ _ fun _ _ => ?_⟩
    clear hc hS
    subst hid
    (simp only [pvSt1]
     simp only [C_X9_isIndex, pvE_iconst, pvE_iload_n1, pvLI_s, pvLd, pvE_imul, pvE_iload_n2, pvE_iadd, pvE_istore_n3, pvS1, List.length_cons, List.length_nil, pvClr_i, pvClr_r, pvClr_l, pvClr_d, pvClr_f, pvClr_n, pvE_iload_n3, pvE_aload_n0, pvLA_s, pvE_getfield, pvGf_0, pvGf_1, pvGf_2, fX1_19, pvSh_0, pvSh_1, pvSh_2, pvSh_3, pvSh_4, pvSh_5, pvSh_6, pvSh_7, pvSh_8, pvSh_9, pvSh_10, pvSh_11, pvSh_12, pvSh_13, pvSh_14, pvSh_15, pvSh_16, pvSh_17, pvSh_18, pvSh_19, pvSh_20, pvSh_21, pvSh_22, pvSh_23, pvSh_24, pvSh_25, pvSh_26, pvSh_27, pvSh_28, pvSh_29, pvSh_30, pvSh_31, pvSh_32, pvSh_33, pvSh_34, pvSh_35, pvSh_36, pvSh_37, pvSh_38, pvRf_0_0, pvRf_0_1, pvRf_0_2, pvRf_0_3, pvRf_0_4, pvRf_0_5, pvRf_0_6, pvRf_0_7, pvRf_0_8, pvRf_0_9, pvRf_0_10, pvRf_1_0, pvRf_3_0, pvRf_5_0, pvRf_5_1, pvRf_5_2, pvRf_9_0, pvRf_9_1, pvRf_9_2, pvRf_13_0, pvRf_13_1, pvRf_13_2, pvRf_17_0, pvRf_17_2, pvRf_20_0, pvRf_20_1, pvRf_20_2, pvRf_24_0, pvRf_24_1, pvRf_24_2, pvRf_28_0, pvRf_28_1, pvRf_28_2, pvRf_28_3, pvRf_33_0, pvRf_33_1, pvRf_36_0, pvRf_36_1, pvE_arraylength, pvAn, pvE_invokestatic (h0 := eX1_28), pvC1_s, pvC2_s, pvAf_v, pvAf_x, pvPop, pvCs, pvCat, pvPush, aX1_numberAt_28, pvE_if_eq, pvE_iaload, pvAI, pvE_goto, pvE_ireturn, bX1_numberAt_0, uX1_numberAt_0, bX1_numberAt_27, uX1_numberAt_27, bX1_numberAt_28, uX1_numberAt_28, pvRtG, pvRecv_r, pvUp_nl, pvUp_same, pvUp_ap, pvSt_ap, pvX_c, pvX_ms, pvX_mn, pvE_nil, pvEn_i, pvEn_r, pvEn_l, pvEn_0, pvEn_s, pvRt, pvRv, pvTh, pvKc, pvGo, pvTgt, Int.toNat_natCast, false_and, and_false, true_and, and_true, if_true, if_false, reduceIte, reduceCtorEq, forall_const, false_or, or_false, true_or, or_true, ne_eq, not_true_eq_false, not_false_eq_true, implies_true, false_implies, Nat.reduceAdd, Nat.reduceSub, Nat.reduceMul, Nat.reduceEqDiff, Nat.reduceLT, Nat.reduceLeDiff, Int.reduceAdd, Int.reduceSub, Int.reduceMul, Int.reduceNeg, Int.reduceToNat, Int.reduceLE, Int.reduceLT, Int.reduceEq, Int.reduceNe, and_self]
     grind)
  · exact h.elim

