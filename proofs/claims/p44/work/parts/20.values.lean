def C_X7_grown : pvC
  | [.inl x, .inl d], z, Q => (0 ≤ x ∧ x ≤ 5 ∧ 0 ≤ d ∧ d ≤ 4) ∧ Q (.inl (some (vI (gwF x d)))) z
  | _, _, _ => False
def bX7_grown : Nat → List (Instr × Nat)
  | 0 => [(.iload_n 0, 1), (.iconst 5, 1), (.if_icmp .ne 5, 3), (.iconst 5, 1), (.ireturn, 1)]
  | 7 => [(.iload_n 0, 1), (.iload_n 1, 1), (.iadd, 1), (.iconst 4, 1), (.if_icmp .le 7, 3), (.iconst 4, 1), (.goto 6, 3)]
  | 18 => [(.iload_n 0, 1), (.iload_n 1, 1), (.iadd, 1)]
  | 21 => [(.ireturn, 1)]
  | _ => []
def uX7_grown : Nat → Option (List Bool)
  | _ => none
def aX7_grown : pvCa
  | _ => none
theorem bX7_grown_0 : bX7_grown 0 = [(.iload_n 0, 1), (.iconst 5, 1), (.if_icmp .ne 5, 3), (.iconst 5, 1), (.ireturn, 1)] := rfl
theorem uX7_grown_0 : uX7_grown 0 = none := rfl
theorem bX7_grown_7 : bX7_grown 7 = [(.iload_n 0, 1), (.iload_n 1, 1), (.iadd, 1), (.iconst 4, 1), (.if_icmp .le 7, 3), (.iconst 4, 1), (.goto 6, 3)] := rfl
theorem uX7_grown_7 : uX7_grown 7 = none := rfl
theorem bX7_grown_18 : bX7_grown 18 = [(.iload_n 0, 1), (.iload_n 1, 1), (.iadd, 1)] := rfl
theorem uX7_grown_18 : uX7_grown 18 = none := rfl
theorem bX7_grown_21 : bX7_grown 21 = [(.ireturn, 1)] := rfl
theorem uX7_grown_21 : uX7_grown 21 = none := rfl
set_option maxRecDepth 100000 in
set_option maxHeartbeats 4000000 in
theorem okX7_grown : pvOkM fX7 aX7_grown kX7 eX7 (some .int) bX7_grown uX7_grown 2 C_X7_grown := by
  intro Q SW hc as z h hS hz
  unfold C_X7_grown at h
  split at h
  · rename_i v c
    refine ⟨Nat.le_of_ble_eq_true rfl, hc 20 _ _ _ fun _ _ => ?_⟩
    clear hc hS
    simp only [pvSt1]
    simp only [pvE_iload_n0, pvLI_s, pvLd, pvE_iconst, pvE_icmp_ne, pvE_ireturn, pvE_iload_n1, pvE_iadd, pvE_icmp_le, pvE_goto, bX7_grown_0, uX7_grown_0, bX7_grown_7, uX7_grown_7, bX7_grown_18, uX7_grown_18, bX7_grown_21, uX7_grown_21, pvRtG, pvRecv_r, pvUp_nl, pvUp_same, pvUp_ap, pvSt_ap, pvX_c, pvX_ms, pvX_mn, pvE_nil, pvEn_i, pvEn_r, pvEn_l, pvEn_0, pvEn_s, pvRt, pvRv, pvTh, pvKc, pvGo, pvTgt, Int.toNat_natCast, false_and, and_false, true_and, and_true, if_true, if_false, reduceIte, reduceCtorEq, forall_const, false_or, or_false, true_or, or_true, ne_eq, not_true_eq_false, not_false_eq_true, implies_true, false_implies, Nat.reduceAdd, Nat.reduceSub, Nat.reduceMul, Nat.reduceEqDiff, Nat.reduceLT, Nat.reduceLeDiff, Int.reduceAdd, Int.reduceSub, Int.reduceMul, Int.reduceNeg, Int.reduceToNat, Int.reduceLE, Int.reduceLT, Int.reduceEq, Int.reduceNe, and_self]
    (unfold gwF at h; grind)
  · exact h.elim
def C_X7_later : pvC
  | [.inl v, .inl d], z, Q => (0 ≤ v ∧ v < 216 ∧ 0 ≤ d ∧ d ≤ 4) ∧ Q (.inl (some (vI (psF v d)))) z
  | _, _, _ => False
def bX7_later : Nat → List (Instr × Nat)
  | 0 => [(.iload_n 0, 1), (.bipush 6, 2), (.irem, 1), (.iload_n 1, 1), (.invokestatic 9, 3), (.bipush 6, 2), (.iload_n 0, 1), (.bipush 6, 2), (.idiv, 1), (.bipush 6, 2), (.irem, 1), (.iload_n 1, 1), (.invokestatic 9, 3), (.imul, 1), (.iadd, 1), (.bipush 36, 2), (.iload_n 0, 1), (.bipush 36, 2), (.idiv, 1), (.iload_n 1, 1), (.invokestatic 9, 3), (.imul, 1), (.iadd, 1), (.ireturn, 1)]
  | _ => []
def uX7_later : Nat → Option (List Bool)
  | _ => none
def aX7_later : pvCa
  | 9 => some (2, true, 0, 0, C_X7_grown)
  | _ => none
theorem bX7_later_0 : bX7_later 0 = [(.iload_n 0, 1), (.bipush 6, 2), (.irem, 1), (.iload_n 1, 1), (.invokestatic 9, 3), (.bipush 6, 2), (.iload_n 0, 1), (.bipush 6, 2), (.idiv, 1), (.bipush 6, 2), (.irem, 1), (.iload_n 1, 1), (.invokestatic 9, 3), (.imul, 1), (.iadd, 1), (.bipush 36, 2), (.iload_n 0, 1), (.bipush 36, 2), (.idiv, 1), (.iload_n 1, 1), (.invokestatic 9, 3), (.imul, 1), (.iadd, 1), (.ireturn, 1)] := rfl
theorem uX7_later_0 : uX7_later 0 = none := rfl
theorem aX7_later_9 : aX7_later 9 = some (2, true, 0, 0, C_X7_grown) := rfl
set_option maxRecDepth 100000 in
set_option maxHeartbeats 4000000 in
theorem okX7_later : pvOkM fX7 aX7_later kX7 eX7 (some .int) bX7_later uX7_later 2 C_X7_later := by
  intro Q SW hc as z h hS hz
  unfold C_X7_later at h
  split at h
  · rename_i v d
    obtain ⟨h1, h2⟩ := h
    refine ⟨Nat.le_of_ble_eq_true rfl, hc 20 _ _ _ fun _ _ => ?_⟩
    clear hc hS
    have e1 := gwF_r (x := v % 6) (d := d) (by omega)
    have e2 := gwF_r (x := v / 6 % 6) (d := d) (by omega)
    have e3 := gwF_r (x := v / 36) (d := d) (by omega)
    simp only [pvSt1]
    simp only [C_X7_grown, pvE_iload_n0, pvLI_s, pvLd, pvE_bipush, pvE_irem, pvE_iload_n1, pvE_invokestatic (h0 := eX7_9), pvC1_s, pvC2_s, pvAf_v, pvAf_x, pvPop, pvCs, pvCat, pvPush, aX7_later_9, pvE_idiv, pvE_imul, pvE_iadd, pvE_ireturn, bX7_later_0, uX7_later_0, pvRtG, pvRecv_r, pvUp_nl, pvUp_same, pvUp_ap, pvSt_ap, pvX_c, pvX_ms, pvX_mn, pvE_nil, pvEn_i, pvEn_r, pvEn_l, pvEn_0, pvEn_s, pvRt, pvRv, pvTh, pvKc, pvGo, pvTgt, Int.toNat_natCast, false_and, and_false, true_and, and_true, if_true, if_false, reduceIte, reduceCtorEq, forall_const, false_or, or_false, true_or, or_true, ne_eq, not_true_eq_false, not_false_eq_true, implies_true, false_implies, Nat.reduceAdd, Nat.reduceSub, Nat.reduceMul, Nat.reduceEqDiff, Nat.reduceLT, Nat.reduceLeDiff, Int.reduceAdd, Int.reduceSub, Int.reduceMul, Int.reduceNeg, Int.reduceToNat, Int.reduceLE, Int.reduceLT, Int.reduceEq, Int.reduceNe, and_self]
    unfold psF at h2
    and_intros <;> first | omega | exact h2 | rfl
  · exact h.elim
def C_X7_withZero : pvC
  | [.inl v, .inl c], z, Q => (0 ≤ v ∧ v < 216 ∧ 0 ≤ c ∧ c ≤ 2) ∧ Q (.inl (some (vI (rsF v c)))) z
  | _, _, _ => False
def bX7_withZero : Nat → List (Instr × Nat)
  | 0 => [(.iload_n 1, 1), (.ifCond .ne 10, 3), (.iload_n 0, 1), (.iload_n 0, 1), (.bipush 6, 2), (.irem, 1), (.isub, 1), (.ireturn, 1)]
  | 11 => [(.iload_n 1, 1), (.iconst 1, 1), (.if_icmp .ne 18, 3), (.iload_n 0, 1), (.iload_n 0, 1), (.bipush 6, 2), (.idiv, 1), (.bipush 6, 2), (.irem, 1), (.bipush 6, 2), (.imul, 1), (.isub, 1), (.goto 7, 3)]
  | 31 => [(.iload_n 0, 1), (.bipush 36, 2), (.irem, 1)]
  | 35 => [(.ireturn, 1)]
  | _ => []
def uX7_withZero : Nat → Option (List Bool)
  | _ => none
def aX7_withZero : pvCa
  | _ => none
theorem bX7_withZero_0 : bX7_withZero 0 = [(.iload_n 1, 1), (.ifCond .ne 10, 3), (.iload_n 0, 1), (.iload_n 0, 1), (.bipush 6, 2), (.irem, 1), (.isub, 1), (.ireturn, 1)] := rfl
theorem uX7_withZero_0 : uX7_withZero 0 = none := rfl
theorem bX7_withZero_11 : bX7_withZero 11 = [(.iload_n 1, 1), (.iconst 1, 1), (.if_icmp .ne 18, 3), (.iload_n 0, 1), (.iload_n 0, 1), (.bipush 6, 2), (.idiv, 1), (.bipush 6, 2), (.irem, 1), (.bipush 6, 2), (.imul, 1), (.isub, 1), (.goto 7, 3)] := rfl
theorem uX7_withZero_11 : uX7_withZero 11 = none := rfl
theorem bX7_withZero_31 : bX7_withZero 31 = [(.iload_n 0, 1), (.bipush 36, 2), (.irem, 1)] := rfl
theorem uX7_withZero_31 : uX7_withZero 31 = none := rfl
theorem bX7_withZero_35 : bX7_withZero 35 = [(.ireturn, 1)] := rfl
theorem uX7_withZero_35 : uX7_withZero 35 = none := rfl
set_option maxRecDepth 100000 in
set_option maxHeartbeats 4000000 in
theorem okX7_withZero : pvOkM fX7 aX7_withZero kX7 eX7 (some .int) bX7_withZero uX7_withZero 2 C_X7_withZero := by
  intro Q SW hc as z h hS hz
  unfold C_X7_withZero at h
  split at h
  · rename_i v c
    refine ⟨Nat.le_of_ble_eq_true rfl, hc 20 _ _ _ fun _ _ => ?_⟩
    clear hc hS
    simp only [pvSt1]
    simp only [pvE_iload_n1, pvLI_s, pvLd, pvE_if_ne, pvE_iload_n0, pvE_bipush, pvE_irem, pvE_isub, pvE_ireturn, pvE_iconst, pvE_icmp_ne, pvE_idiv, pvE_imul, pvE_goto, bX7_withZero_0, uX7_withZero_0, bX7_withZero_11, uX7_withZero_11, bX7_withZero_31, uX7_withZero_31, bX7_withZero_35, uX7_withZero_35, pvRtG, pvRecv_r, pvUp_nl, pvUp_same, pvUp_ap, pvSt_ap, pvX_c, pvX_ms, pvX_mn, pvE_nil, pvEn_i, pvEn_r, pvEn_l, pvEn_0, pvEn_s, pvRt, pvRv, pvTh, pvKc, pvGo, pvTgt, Int.toNat_natCast, false_and, and_false, true_and, and_true, if_true, if_false, reduceIte, reduceCtorEq, forall_const, false_or, or_false, true_or, or_true, ne_eq, not_true_eq_false, not_false_eq_true, implies_true, false_implies, Nat.reduceAdd, Nat.reduceSub, Nat.reduceMul, Nat.reduceEqDiff, Nat.reduceLT, Nat.reduceLeDiff, Int.reduceAdd, Int.reduceSub, Int.reduceMul, Int.reduceNeg, Int.reduceToNat, Int.reduceLE, Int.reduceLT, Int.reduceEq, Int.reduceNe, and_self]
    (unfold rsF at h; grind)
  · exact h.elim
def C_X7_writtenDigit : pvC
  | [.inl x], z, Q => (0 ≤ x ∧ x ≤ 5) ∧ Q (.inl (some (vI (dgF x)))) z
  | _, _, _ => False
def bX7_writtenDigit : Nat → List (Instr × Nat)
  | 0 => [(.iload_n 0, 1), (.iconst 5, 1), (.if_icmp .ne 8, 3), (.bipush 9, 2), (.goto 4, 3)]
  | 10 => [(.iload_n 0, 1)]
  | 11 => [(.ireturn, 1)]
  | _ => []
def uX7_writtenDigit : Nat → Option (List Bool)
  | _ => none
def aX7_writtenDigit : pvCa
  | _ => none
theorem bX7_writtenDigit_0 : bX7_writtenDigit 0 = [(.iload_n 0, 1), (.iconst 5, 1), (.if_icmp .ne 8, 3), (.bipush 9, 2), (.goto 4, 3)] := rfl
theorem uX7_writtenDigit_0 : uX7_writtenDigit 0 = none := rfl
theorem bX7_writtenDigit_10 : bX7_writtenDigit 10 = [(.iload_n 0, 1)] := rfl
theorem uX7_writtenDigit_10 : uX7_writtenDigit 10 = none := rfl
theorem bX7_writtenDigit_11 : bX7_writtenDigit 11 = [(.ireturn, 1)] := rfl
theorem uX7_writtenDigit_11 : uX7_writtenDigit 11 = none := rfl
set_option maxRecDepth 100000 in
set_option maxHeartbeats 4000000 in
theorem okX7_writtenDigit : pvOkM fX7 aX7_writtenDigit kX7 eX7 (some .int) bX7_writtenDigit uX7_writtenDigit 1 C_X7_writtenDigit := by
  intro Q SW hc as z h hS hz
  unfold C_X7_writtenDigit at h
  split at h
  · rename_i x
    refine ⟨Nat.le_of_ble_eq_true rfl, hc 20 _ _ _ fun _ _ => ?_⟩
    clear hc hS
    simp only [pvSt1]
    simp only [pvE_iload_n0, pvLI_s, pvLd, pvE_iconst, pvE_icmp_ne, pvE_bipush, pvE_goto, pvE_ireturn, bX7_writtenDigit_0, uX7_writtenDigit_0, bX7_writtenDigit_10, uX7_writtenDigit_10, bX7_writtenDigit_11, uX7_writtenDigit_11, pvRtG, pvRecv_r, pvUp_nl, pvUp_same, pvUp_ap, pvSt_ap, pvX_c, pvX_ms, pvX_mn, pvE_nil, pvEn_i, pvEn_r, pvEn_l, pvEn_0, pvEn_s, pvRt, pvRv, pvTh, pvKc, pvGo, pvTgt, Int.toNat_natCast, false_and, and_false, true_and, and_true, if_true, if_false, reduceIte, reduceCtorEq, forall_const, false_or, or_false, true_or, or_true, ne_eq, not_true_eq_false, not_false_eq_true, implies_true, false_implies, Nat.reduceAdd, Nat.reduceSub, Nat.reduceMul, Nat.reduceEqDiff, Nat.reduceLT, Nat.reduceLeDiff, Int.reduceAdd, Int.reduceSub, Int.reduceMul, Int.reduceNeg, Int.reduceToNat, Int.reduceLE, Int.reduceLT, Int.reduceEq, Int.reduceNe, and_self]
    (unfold dgF at h; grind)
  · exact h.elim
def C_X7_written : pvC
  | [.inl v], z, Q => (0 ≤ v ∧ v < 216) ∧ Q (.inl (some (vI (tdF v)))) z
  | _, _, _ => False
def bX7_written : Nat → List (Instr × Nat)
  | 0 => [(.iload_n 0, 1), (.bipush 6, 2), (.irem, 1), (.invokestatic 13, 3), (.bipush 10, 2), (.iload_n 0, 1), (.bipush 6, 2), (.idiv, 1), (.bipush 6, 2), (.irem, 1), (.invokestatic 13, 3), (.imul, 1), (.iadd, 1), (.bipush 100, 2), (.iload_n 0, 1), (.bipush 36, 2), (.idiv, 1), (.invokestatic 13, 3), (.imul, 1), (.iadd, 1), (.ireturn, 1)]
  | _ => []
def uX7_written : Nat → Option (List Bool)
  | _ => none
def aX7_written : pvCa
  | 13 => some (1, true, 0, 0, C_X7_writtenDigit)
  | _ => none
theorem bX7_written_0 : bX7_written 0 = [(.iload_n 0, 1), (.bipush 6, 2), (.irem, 1), (.invokestatic 13, 3), (.bipush 10, 2), (.iload_n 0, 1), (.bipush 6, 2), (.idiv, 1), (.bipush 6, 2), (.irem, 1), (.invokestatic 13, 3), (.imul, 1), (.iadd, 1), (.bipush 100, 2), (.iload_n 0, 1), (.bipush 36, 2), (.idiv, 1), (.invokestatic 13, 3), (.imul, 1), (.iadd, 1), (.ireturn, 1)] := rfl
theorem uX7_written_0 : uX7_written 0 = none := rfl
theorem aX7_written_13 : aX7_written 13 = some (1, true, 0, 0, C_X7_writtenDigit) := rfl
set_option maxRecDepth 100000 in
set_option maxHeartbeats 4000000 in
theorem okX7_written : pvOkM fX7 aX7_written kX7 eX7 (some .int) bX7_written uX7_written 1 C_X7_written := by
  intro Q SW hc as z h hS hz
  unfold C_X7_written at h
  split at h
  · rename_i v
    obtain ⟨h1, h2⟩ := h
    refine ⟨Nat.le_of_ble_eq_true rfl, hc 20 _ _ _ fun _ _ => ?_⟩
    clear hc hS
    have e1 := dgF_r (x := v % 6) (by omega)
    have e2 := dgF_r (x := v / 6 % 6) (by omega)
    have e3 := dgF_r (x := v / 36) (by omega)
    simp only [pvSt1]
    simp only [C_X7_writtenDigit, pvE_iload_n0, pvLI_s, pvLd, pvE_bipush, pvE_irem, pvE_invokestatic (h0 := eX7_13), pvC1_s, pvC2_s, pvAf_v, pvAf_x, pvPop, pvCs, pvCat, pvPush, aX7_written_13, pvE_idiv, pvE_imul, pvE_iadd, pvE_ireturn, bX7_written_0, uX7_written_0, pvRtG, pvRecv_r, pvUp_nl, pvUp_same, pvUp_ap, pvSt_ap, pvX_c, pvX_ms, pvX_mn, pvE_nil, pvEn_i, pvEn_r, pvEn_l, pvEn_0, pvEn_s, pvRt, pvRv, pvTh, pvKc, pvGo, pvTgt, Int.toNat_natCast, false_and, and_false, true_and, and_true, if_true, if_false, reduceIte, reduceCtorEq, forall_const, false_or, or_false, true_or, or_true, ne_eq, not_true_eq_false, not_false_eq_true, implies_true, false_implies, Nat.reduceAdd, Nat.reduceSub, Nat.reduceMul, Nat.reduceEqDiff, Nat.reduceLT, Nat.reduceLeDiff, Int.reduceAdd, Int.reduceSub, Int.reduceMul, Int.reduceNeg, Int.reduceToNat, Int.reduceLE, Int.reduceLT, Int.reduceEq, Int.reduceNe, and_self]
    unfold tdF at h2
    and_intros <;> first | omega | exact h2 | rfl
  · exact h.elim
def C_X7_satisfying : pvC
  | [.inl k, .inl n], z, Q => (0 ≤ k ∧ k ≤ 6 ∧ 0 ≤ n ∧ n ≤ 3) ∧ Q (.inl (some (vI (smF k n)))) z
  | _, _, _ => False
def bX7_satisfying : Nat → List (Instr × Nat)
  | 0 => [(.iload_n 0, 1), (.tableswitch 80 0 5 #[39, 45, 51, 55, 66, 77], 39)]
  | 40 => [(.iconst 1, 1), (.iload_n 1, 1), (.ishl, 1), (.iconst 1, 1), (.isub, 1), (.ireturn, 1)]
  | 46 => [(.iconst 2, 1), (.iload_n 1, 1), (.ishl, 1), (.iconst 1, 1), (.isub, 1), (.ireturn, 1)]
  | 52 => [(.iconst 1, 1), (.iload_n 1, 1), (.ishl, 1), (.ireturn, 1)]
  | 56 => [(.bipush 31, 2), (.iconst 1, 1), (.iload_n 1, 1), (.ishl, 1), (.iconst 1, 1), (.isub, 1), (.iconst (-1), 1), (.ixor, 1), (.iand, 1), (.ireturn, 1)]
  | 67 => [(.bipush 31, 2), (.iconst 2, 1), (.iload_n 1, 1), (.ishl, 1), (.iconst 1, 1), (.isub, 1), (.iconst (-1), 1), (.ixor, 1), (.iand, 1), (.ireturn, 1)]
  | 78 => [(.bipush 32, 2), (.ireturn, 1)]
  | 81 => [(.bipush 31, 2), (.ireturn, 1)]
  | _ => []
def uX7_satisfying : Nat → Option (List Bool)
  | _ => none
def aX7_satisfying : pvCa
  | _ => none
theorem bX7_satisfying_0 : bX7_satisfying 0 = [(.iload_n 0, 1), (.tableswitch 80 0 5 #[39, 45, 51, 55, 66, 77], 39)] := rfl
theorem uX7_satisfying_0 : uX7_satisfying 0 = none := rfl
theorem bX7_satisfying_40 : bX7_satisfying 40 = [(.iconst 1, 1), (.iload_n 1, 1), (.ishl, 1), (.iconst 1, 1), (.isub, 1), (.ireturn, 1)] := rfl
theorem uX7_satisfying_40 : uX7_satisfying 40 = none := rfl
theorem bX7_satisfying_46 : bX7_satisfying 46 = [(.iconst 2, 1), (.iload_n 1, 1), (.ishl, 1), (.iconst 1, 1), (.isub, 1), (.ireturn, 1)] := rfl
theorem uX7_satisfying_46 : uX7_satisfying 46 = none := rfl
theorem bX7_satisfying_52 : bX7_satisfying 52 = [(.iconst 1, 1), (.iload_n 1, 1), (.ishl, 1), (.ireturn, 1)] := rfl
theorem uX7_satisfying_52 : uX7_satisfying 52 = none := rfl
theorem bX7_satisfying_56 : bX7_satisfying 56 = [(.bipush 31, 2), (.iconst 1, 1), (.iload_n 1, 1), (.ishl, 1), (.iconst 1, 1), (.isub, 1), (.iconst (-1), 1), (.ixor, 1), (.iand, 1), (.ireturn, 1)] := rfl
theorem uX7_satisfying_56 : uX7_satisfying 56 = none := rfl
theorem bX7_satisfying_67 : bX7_satisfying 67 = [(.bipush 31, 2), (.iconst 2, 1), (.iload_n 1, 1), (.ishl, 1), (.iconst 1, 1), (.isub, 1), (.iconst (-1), 1), (.ixor, 1), (.iand, 1), (.ireturn, 1)] := rfl
theorem uX7_satisfying_67 : uX7_satisfying 67 = none := rfl
theorem bX7_satisfying_78 : bX7_satisfying 78 = [(.bipush 32, 2), (.ireturn, 1)] := rfl
theorem uX7_satisfying_78 : uX7_satisfying 78 = none := rfl
theorem bX7_satisfying_81 : bX7_satisfying 81 = [(.bipush 31, 2), (.ireturn, 1)] := rfl
theorem uX7_satisfying_81 : uX7_satisfying 81 = none := rfl
set_option maxRecDepth 100000 in
set_option maxHeartbeats 4000000 in
theorem okX7_satisfying : pvOkM fX7 aX7_satisfying kX7 eX7 (some .int) bX7_satisfying uX7_satisfying 2 C_X7_satisfying := by
  intro Q SW hc as z h hS hz
  unfold C_X7_satisfying at h
  split at h
  · rename_i k n
    obtain ⟨h1, h2⟩ := h
    refine ⟨Nat.le_of_ble_eq_true rfl, hc 20 _ _ _ fun _ _ => ?_⟩
    clear hc hS
    obtain ⟨b, rfl⟩ := fin_of (a := n) (n := 4) (by omega)
    have r1 : ∀ b : Fin 4, 1 ≤ pvShl 1 ((b : Nat) : Int) ∧ pvShl 1 ((b : Nat) : Int) ≤ 8 := by decide +kernel
    have r2 : ∀ b : Fin 4, 1 ≤ pvShl 2 ((b : Nat) : Int) ∧ pvShl 2 ((b : Nat) : Int) ≤ 16 := by decide +kernel
    have q1 := r1 b
    have q2 := r2 b
    rcases (show k = 0 ∨ k = 1 ∨ k = 2 ∨ k = 3 ∨ k = 4 ∨ k = 5 ∨ k = 6 by omega) with rfl | rfl | rfl | rfl | rfl | rfl | rfl <;>
      simp only [smF_0, smF_1, smF_2, smF_3, smF_4, smF_5, smF_6] at h2 <;> simp only [pvSt1] <;>
      simp only [pvE_iload_n0, pvLI_s, pvLd, pvE_tableswitch, pvSw, pvE_iconst, pvE_iload_n1, pvE_ishl, pvE_isub, pvE_ireturn, pvE_bipush, pvE_ixor, pvE_iand, bX7_satisfying_0, uX7_satisfying_0, bX7_satisfying_40, uX7_satisfying_40, bX7_satisfying_46, uX7_satisfying_46, bX7_satisfying_52, uX7_satisfying_52, bX7_satisfying_56, uX7_satisfying_56, bX7_satisfying_67, uX7_satisfying_67, bX7_satisfying_78, uX7_satisfying_78, bX7_satisfying_81, uX7_satisfying_81, pvRtG, pvRecv_r, pvUp_nl, pvUp_same, pvUp_ap, pvSt_ap, pvX_c, pvX_ms, pvX_mn, pvE_nil, pvEn_i, pvEn_r, pvEn_l, pvEn_0, pvEn_s, pvRt, pvRv, pvTh, pvKc, pvGo, pvTgt, Int.toNat_natCast, false_and, and_false, true_and, and_true, if_true, if_false, reduceIte, reduceCtorEq, forall_const, false_or, or_false, true_or, or_true, ne_eq, not_true_eq_false, not_false_eq_true, implies_true, false_implies, Nat.reduceAdd, Nat.reduceSub, Nat.reduceMul, Nat.reduceEqDiff, Nat.reduceLT, Nat.reduceLeDiff, Int.reduceAdd, Int.reduceSub, Int.reduceMul, Int.reduceNeg, Int.reduceToNat, Int.reduceLE, Int.reduceLT, Int.reduceEq, Int.reduceNe, and_self] <;>
      and_intros <;> first | omega | exact h2 | rfl
  · exact h.elim
def C_X7_narrowed : pvC
  | [.inl a, .inl c, .inl v], z, Q => (0 ≤ a ∧ a < 262144 ∧ 0 ≤ c ∧ c ≤ 2 ∧ 0 ≤ v ∧ v < 64) ∧ Q (.inl (some (vI (nwF a c v)))) z
  | _, _, _ => False
def bX7_narrowed : Nat → List (Instr × Nat)
  | 0 => [(.bipush 6, 2), (.iload_n 1, 1), (.imul, 1), (.istore_n 3, 1), (.iload_n 0, 1), (.ldc 17, 2), (.bipush 63, 2), (.iload_n 3, 1), (.ishl, 1), (.iconst (-1), 1), (.ixor, 1), (.iand, 1), (.iload_n 2, 1), (.iload_n 3, 1), (.ishl, 1), (.ior, 1), (.iand, 1), (.ireturn, 1)]
  | _ => []
def uX7_narrowed : Nat → Option (List Bool)
  | _ => none
def aX7_narrowed : pvCa
  | _ => none
theorem bX7_narrowed_0 : bX7_narrowed 0 = [(.bipush 6, 2), (.iload_n 1, 1), (.imul, 1), (.istore_n 3, 1), (.iload_n 0, 1), (.ldc 17, 2), (.bipush 63, 2), (.iload_n 3, 1), (.ishl, 1), (.iconst (-1), 1), (.ixor, 1), (.iand, 1), (.iload_n 2, 1), (.iload_n 3, 1), (.ishl, 1), (.ior, 1), (.iand, 1), (.ireturn, 1)] := rfl
theorem uX7_narrowed_0 : uX7_narrowed 0 = none := rfl
set_option maxRecDepth 100000 in
set_option maxHeartbeats 4000000 in
theorem okX7_narrowed : pvOkM fX7 aX7_narrowed kX7 eX7 (some .int) bX7_narrowed uX7_narrowed 4 C_X7_narrowed := by
  intro Q SW hc as z h hS hz
  unfold C_X7_narrowed at h
  split at h
  · rename_i a c v
    obtain ⟨h1, h2⟩ := h
    refine ⟨Nat.le_of_ble_eq_true rfl, hc 20 _ _ _ fun _ _ => ?_⟩
    clear hc hS
    obtain ⟨b, rfl⟩ := fin_of (a := c) (n := 3) (by omega)
    obtain ⟨d, rfl⟩ := fin_of (a := v) (n := 64) (by omega)
    have e := nw_mask b d
    have hle : (262143 - 63 * 64 ^ (b : Nat) + (d : Nat) * 64 ^ (b : Nat) : Nat) ≤ 2147483647 := by
      have : ∀ (b : Fin 3) (d : Fin 64), (262143 - 63 * 64 ^ (b : Nat) + (d : Nat) * 64 ^ (b : Nat) : Nat) ≤ 2147483647 := by decide +kernel
      exact this b d
    simp only [pvSt1]
    simp only [pvE_bipush, pvE_iload_n1, pvLI_s, pvLd, pvE_imul, pvE_istore_n3, pvS1, List.length_cons, List.length_nil, pvClr_i, pvClr_r, pvClr_l, pvClr_d, pvClr_f, pvClr_n, pvE_iload_n0, pvE_ldc (h0 := kX7_17), pvE_iload_n3, pvE_ishl, pvE_iconst, pvE_ixor, pvE_iand, pvE_iload_n2, pvE_ior, pvE_ireturn, bX7_narrowed_0, uX7_narrowed_0, pvRtG, pvRecv_r, pvUp_nl, pvUp_same, pvUp_ap, pvSt_ap, pvX_c, pvX_ms, pvX_mn, pvE_nil, pvEn_i, pvEn_r, pvEn_l, pvEn_0, pvEn_s, pvRt, pvRv, pvTh, pvKc, pvGo, pvTgt, Int.toNat_natCast, false_and, and_false, true_and, and_true, if_true, if_false, reduceIte, reduceCtorEq, forall_const, false_or, or_false, true_or, or_true, ne_eq, not_true_eq_false, not_false_eq_true, implies_true, false_implies, Nat.reduceAdd, Nat.reduceSub, Nat.reduceMul, Nat.reduceEqDiff, Nat.reduceLT, Nat.reduceLeDiff, Int.reduceAdd, Int.reduceSub, Int.reduceMul, Int.reduceNeg, Int.reduceToNat, Int.reduceLE, Int.reduceLT, Int.reduceEq, Int.reduceNe, and_self]
    rw [e, pvAnd_nat (by omega) (by omega) (by omega) (by omega)]
    unfold nwF at h2
    simp only [Int.toNat_natCast] at h2 ⊢
    and_intros <;> first | omega | exact h2 | rfl
  · exact h.elim
theorem pvShr_n {a k : Int} (ha : 0 ≤ a) (ha1 : a ≤ 2147483647) (hk : 0 ≤ k) (hk1 : k ≤ 31) : pvShr a k = ((a.toNat >>> k.toNat : Nat) : Int) := by
  rw [pvShr_nat ha ha1 hk hk1, Nat.shiftRight_eq_div_pow, Int.natCast_ediv, Int.natCast_pow]
  congr 1
  omega
theorem shr_le (a k : Nat) : a >>> k ≤ a := by rw [Nat.shiftRight_eq_div_pow]; exact Nat.div_le_self _ _
theorem pvAnd_n {x y : Nat} (hx : x ≤ 2147483647) (hy : y ≤ 2147483647) : pvAnd (x : Int) (y : Int) = ((x &&& y : Nat) : Int) := by
  rw [pvAnd_nat (by omega) (by omega) (by omega) (by omega)]
  rfl
theorem and3 {x y w : Nat} (hx : x ≤ 2147483647) (hy : y ≤ 2147483647) (hw : w ≤ 2147483647) : pvAnd (pvAnd (pvAnd (x : Int) (y : Int)) (w : Int)) 1 = ((x &&& y &&& w &&& 1 : Nat) : Int) := by
  have h1 := pvAnd_n hx hy
  have h2 := pvAnd_n (x := x &&& y) (Nat.le_trans Nat.and_le_left hx) hw
  have h3 := pvAnd_n (x := x &&& y &&& w) (y := 1) (Nat.le_trans Nat.and_le_left (Nat.le_trans Nat.and_le_left hx)) (by decide)
  rw [h1, h2]
  exact h3
theorem al_eq {a v : Int} (h : 0 ≤ a ∧ a < 262144 ∧ 0 ≤ v ∧ v < 216) : pvAnd (pvAnd (pvAnd (pvShr a (v % 6)) (pvShr a (6 + v / 6 % 6))) (pvShr a (12 + v / 36))) 1 = if alF a v then 1 else 0 := by
  rw [pvShr_n (by omega) (by omega) (by omega) (by omega), pvShr_n (by omega) (by omega) (by omega) (by omega), pvShr_n (by omega) (by omega) (by omega) (by omega)]
  rw [and3 (Nat.le_trans (shr_le _ _) (by omega)) (Nat.le_trans (shr_le _ _) (by omega)) (Nat.le_trans (shr_le _ _) (by omega))]
  have e : ∀ n : Nat, n &&& 1 = if n.testBit 0 then 1 else 0 := fun n => by
    rw [Nat.and_one_is_mod, Nat.testBit_zero]
    rcases Nat.mod_two_eq_zero_or_one n with h | h <;> simp [h]
  rw [e]
  unfold alF
  rw [Nat.testBit_and, Nat.testBit_and, Nat.testBit_shiftRight, Nat.testBit_shiftRight, Nat.testBit_shiftRight]
  simp only [Nat.add_zero]
  rw [show (6 + v / 6 % 6).toNat = 6 + (v / 6 % 6).toNat by omega, show (12 + v / 36).toNat = 12 + (v / 36).toNat by omega]
  split <;> rfl
def C_X7_isAllowed : pvC
  | [.inl a, .inl v], z, Q => (0 ≤ a ∧ a < 262144 ∧ 0 ≤ v ∧ v < 216) ∧ (alF a v = true → Q (.inl (some (vI 1))) z) ∧ (alF a v = false → Q (.inl (some (vI 0))) z)
  | _, _, _ => False
def bX7_isAllowed : Nat → List (Instr × Nat)
  | 0 => [(.iload_n 0, 1), (.iload_n 1, 1), (.bipush 6, 2), (.irem, 1), (.ishr, 1), (.iload_n 0, 1), (.bipush 6, 2), (.iload_n 1, 1), (.bipush 6, 2), (.idiv, 1), (.bipush 6, 2), (.irem, 1), (.iadd, 1), (.ishr, 1), (.iand, 1), (.iload_n 0, 1), (.bipush 12, 2), (.iload_n 1, 1), (.bipush 36, 2), (.idiv, 1), (.iadd, 1), (.ishr, 1), (.iand, 1), (.iconst 1, 1), (.iand, 1), (.ifCond .eq 7, 3), (.iconst 1, 1), (.goto 4, 3)]
  | 38 => [(.iconst 0, 1)]
  | 39 => [(.ireturn, 1)]
  | _ => []
def uX7_isAllowed : Nat → Option (List Bool)
  | _ => none
def aX7_isAllowed : pvCa
  | _ => none
theorem bX7_isAllowed_0 : bX7_isAllowed 0 = [(.iload_n 0, 1), (.iload_n 1, 1), (.bipush 6, 2), (.irem, 1), (.ishr, 1), (.iload_n 0, 1), (.bipush 6, 2), (.iload_n 1, 1), (.bipush 6, 2), (.idiv, 1), (.bipush 6, 2), (.irem, 1), (.iadd, 1), (.ishr, 1), (.iand, 1), (.iload_n 0, 1), (.bipush 12, 2), (.iload_n 1, 1), (.bipush 36, 2), (.idiv, 1), (.iadd, 1), (.ishr, 1), (.iand, 1), (.iconst 1, 1), (.iand, 1), (.ifCond .eq 7, 3), (.iconst 1, 1), (.goto 4, 3)] := rfl
theorem uX7_isAllowed_0 : uX7_isAllowed 0 = none := rfl
theorem bX7_isAllowed_38 : bX7_isAllowed 38 = [(.iconst 0, 1)] := rfl
theorem uX7_isAllowed_38 : uX7_isAllowed 38 = none := rfl
theorem bX7_isAllowed_39 : bX7_isAllowed 39 = [(.ireturn, 1)] := rfl
theorem uX7_isAllowed_39 : uX7_isAllowed 39 = none := rfl
set_option maxRecDepth 100000 in
set_option maxHeartbeats 4000000 in
theorem okX7_isAllowed : pvOkM fX7 aX7_isAllowed kX7 eX7 (some .boolean) bX7_isAllowed uX7_isAllowed 2 C_X7_isAllowed := by
  intro Q SW hc as z h hS hz
  unfold C_X7_isAllowed at h
  split at h
  · rename_i a v
    obtain ⟨h1, h2, h3⟩ := h
    refine ⟨Nat.le_of_ble_eq_true rfl, hc 20 _ _ _ fun _ _ => ?_⟩
    clear hc hS
    simp only [pvSt1]
    simp only [pvE_iload_n0, pvLI_s, pvLd, pvE_iload_n1, pvE_bipush, pvE_irem, pvE_ishr, pvE_idiv, pvE_iadd, pvE_iand, pvE_iconst, pvE_if_eq, pvE_goto, pvE_ireturn, bX7_isAllowed_0, uX7_isAllowed_0, bX7_isAllowed_38, uX7_isAllowed_38, bX7_isAllowed_39, uX7_isAllowed_39, pvRtG, pvRecv_r, pvUp_nl, pvUp_same, pvUp_ap, pvSt_ap, pvX_c, pvX_ms, pvX_mn, pvE_nil, pvEn_i, pvEn_r, pvEn_l, pvEn_0, pvEn_s, pvRt, pvRv, pvTh, pvKc, pvGo, pvTgt, Int.toNat_natCast, false_and, and_false, true_and, and_true, if_true, if_false, reduceIte, reduceCtorEq, forall_const, false_or, or_false, true_or, or_true, ne_eq, not_true_eq_false, not_false_eq_true, implies_true, false_implies, Nat.reduceAdd, Nat.reduceSub, Nat.reduceMul, Nat.reduceEqDiff, Nat.reduceLT, Nat.reduceLeDiff, Int.reduceAdd, Int.reduceSub, Int.reduceMul, Int.reduceNeg, Int.reduceToNat, Int.reduceLE, Int.reduceLT, Int.reduceEq, Int.reduceNe, and_self]
    rw [al_eq h1]
    cases e : alF a v
    · and_intros <;> first | omega | (intro _; exact ⟨by omega, h3 e⟩) | (intro q; exact absurd rfl q)
    · and_intros <;> first | omega | (intro q; exact absurd q (by decide)) | (intro _; exact ⟨by omega, h2 e⟩)
  · exact h.elim

