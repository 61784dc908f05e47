theorem py_t {z z' z'' : pvM} {s : Int} (h : pyF z s z') (h' : pyF z' s z'') : pyF z s z'' := ⟨frF_t h.1 h'.1 (fun _ h => h) (fun _ h => h), h'.2⟩
theorem pw_o (s : Int) : pwF s = 5 ∨ pwF s = 9 := by unfold pwF; split <;> simp
theorem py_r {z z' : pvM} {s : Int} (h : pyF z s z') : z'.1 (rwC s) = z.1 (rwC s) := de_r (py_de h) s
theorem py_n {z z' : pvM} {s : Int} (h : pyF z s z') (hs : 0 ≤ s ∧ s ≤ 1) {x : Int} (hx : 0 ≤ x ∧ x ≤ 15) : z'.1 (pwF s + 3) x.toNat = ixF (dsF (autC (z.1 (rwC s)))) x := by
  have := (py_P h hs).1.1.2.2 x.toNat (by omega)
  rw [this, show ((x.toNat : Nat) : Int) = x by omega]
def C_X9_deterministicStates : pvC
  | [.inr (.inr (.inl id)), .inl s], z, Q => id = 0 ∧ pzF z ∧ (¬ (0 ≤ s ∧ s ≤ 1) → Q (.inr 0) z) ∧
      (0 ≤ s ∧ s ≤ 1 → ∀ z' : pvM, pyF z s z' → Q (.inl (some (vI ((dsF (autC (z.1 (rwC s)))).length : Int)))) z')
  | _, _, _ => False
def bX9_deterministicStates : Nat → List (Instr × Nat)
  | 0 => [(.iload_n 1, 1), (.iconst 2, 1), (.invokestatic 97, 3), (.aload_n 0, 1), (.iload_n 1, 1), (.invokevirtual 217, 3), (.getfield 221, 3), (.ireturn, 1)]
  | _ => []
def uX9_deterministicStates : Nat → Option (List Bool)
  | _ => none
def aX9_deterministicStates : pvCa
  | 97 => some (2, true, 0, 0, C_X9_requireIndex)
  | 217 => some (2, false, 8, 0, C_X9_powerset)
  | _ => none
theorem bX9_deterministicStates_0 : bX9_deterministicStates 0 = [(.iload_n 1, 1), (.iconst 2, 1), (.invokestatic 97, 3), (.aload_n 0, 1), (.iload_n 1, 1), (.invokevirtual 217, 3), (.getfield 221, 3), (.ireturn, 1)] := rfl
theorem uX9_deterministicStates_0 : uX9_deterministicStates 0 = none := rfl
theorem aX9_deterministicStates_97 : aX9_deterministicStates 97 = some (2, true, 0, 0, C_X9_requireIndex) := rfl
theorem aX9_deterministicStates_217 : aX9_deterministicStates 217 = some (2, false, 8, 0, C_X9_powerset) := rfl
set_option maxRecDepth 100000 in
set_option maxHeartbeats 4000000 in
theorem okX9_deterministicStates : pvOkM fX9 aX9_deterministicStates kX9 eX9 (some .int) bX9_deterministicStates uX9_deterministicStates 2 C_X9_deterministicStates := by
  intro Q SW hc as z h hS hz
  unfold C_X9_deterministicStates at h
  split at h
  · rename_i id s
    obtain ⟨rfl, hp, h1, h2⟩ := h
    refine ⟨Nat.le_of_ble_eq_true rfl, hc 20 _ _ _ fun _ _ => ?_⟩
    clear hc hS hz
    simp only [pvSt1]
    have hsh := pw_sh s
    have hlt := pw_o s
    simp only [C_X9_powerset, C_X9_requireIndex, hsh, pvE_iload_n1, pvLI_s, pvLd, pvE_iconst, pvE_invokestatic (h0 := eX9_97), pvC1_s, pvC2_s, pvAf_v, pvAf_x, pvPop, pvCs, pvCat, pvPush, aX9_deterministicStates_97, pvE_aload_n0, pvLA_s, pvE_invokevirtual, aX9_deterministicStates_217, pvSh_0, pvSh_1, pvSh_2, pvSh_3, pvSh_4, pvSh_5, pvSh_6, pvSh_7, pvSh_8, pvSh_9, pvSh_10, pvSh_11, pvSh_12, pvSh_13, pvSh_14, pvSh_15, pvSh_16, pvSh_17, pvSh_18, pvSh_19, pvSh_20, pvSh_21, pvSh_22, pvSh_23, pvSh_24, pvSh_25, pvSh_26, pvSh_27, pvSh_28, pvSh_29, pvSh_30, pvSh_31, pvSh_32, pvSh_33, pvSh_34, pvSh_35, pvSh_36, pvSh_37, pvSh_38, pvE_getfield, pvGf_0, pvGf_1, pvGf_2, fX9_221, pvRf_0_0, pvRf_0_1, pvRf_0_2, pvRf_0_3, pvRf_0_4, pvRf_0_5, pvRf_0_6, pvRf_0_7, pvRf_0_8, pvRf_0_9, pvRf_0_10, pvRf_1_0, pvRf_3_0, pvRf_5_0, pvRf_5_1, pvRf_5_2, pvRf_9_0, pvRf_9_1, pvRf_9_2, pvRf_13_0, pvRf_13_1, pvRf_13_2, pvRf_17_0, pvRf_17_2, pvRf_20_0, pvRf_20_1, pvRf_20_2, pvRf_24_0, pvRf_24_1, pvRf_24_2, pvRf_28_0, pvRf_28_1, pvRf_28_2, pvRf_28_3, pvRf_33_0, pvRf_33_1, pvRf_36_0, pvRf_36_1, pvE_ireturn, bX9_deterministicStates_0, uX9_deterministicStates_0, pvRtG, pvRecv_r, pvUp_nl, pvUp_same, pvUp_ap, pvSt_ap, pvX_c, pvX_ms, pvX_mn, pvE_nil, pvEn_i, pvEn_r, pvEn_l, pvEn_0, pvEn_s, pvRt, pvRv, pvTh, pvKc, pvGo, pvTgt, Int.toNat_natCast, false_and, and_false, true_and, and_true, if_true, if_false, reduceIte, reduceCtorEq, forall_const, false_or, or_false, true_or, or_true, ne_eq, not_true_eq_false, not_false_eq_true, implies_true, false_implies, Nat.reduceAdd, Nat.reduceSub, Nat.reduceMul, Nat.reduceEqDiff, Nat.reduceLT, Nat.reduceLeDiff, Int.reduceAdd, Int.reduceSub, Int.reduceMul, Int.reduceNeg, Int.reduceToNat, Int.reduceLE, Int.reduceLT, Int.reduceEq, Int.reduceNe, and_self]
    by_cases hs : 0 ≤ s ∧ s ≤ 1
    · have h3 := h2 hs
      (repeat' first | with_reducible apply And.intro | with_reducible intro _)
      all_goals first
        | omega
        | assumption
        | (rename pyF _ _ _ => y1
           have e3 := (py_P y1 hs).1.1.1
           rw [e3]
           exact h3 _ y1)
    · have h4 := h1 hs
      (repeat' first | with_reducible apply And.intro | with_reducible intro _) <;> first | omega | assumption
  · exact h.elim
def C_X9_deterministicSet : pvC
  | [.inr (.inr (.inl id)), .inl s, .inl i], z, Q => id = 0 ∧ pzF z ∧ (¬ (0 ≤ s ∧ s ≤ 1) → Q (.inr 0) z) ∧
      (0 ≤ s ∧ s ≤ 1 → ∀ z' : pvM, pyF z s z' → (0 ≤ i ∧ i < (dsF (autC (z.1 (rwC s)))).length → Q (.inl (some (vI (ndF (dsF (autC (z.1 (rwC s)))) i.toNat)))) z') ∧ (¬ (0 ≤ i ∧ i < (dsF (autC (z.1 (rwC s)))).length) → Q (.inr 0) z'))
  | _, _, _ => False
def bX9_deterministicSet : Nat → List (Instr × Nat)
  | 0 => [(.aload_n 0, 1), (.iload_n 1, 1), (.iload_n 2, 1), (.invokevirtual 223, 3), (.aload_n 0, 1), (.iload_n 1, 1), (.invokevirtual 217, 3), (.iload_n 2, 1), (.invokevirtual 226, 3), (.ireturn, 1)]
  | _ => []
def uX9_deterministicSet : Nat → Option (List Bool)
  | _ => none
def aX9_deterministicSet : pvCa
  | 217 => some (2, false, 8, 0, C_X9_powerset)
  | 223 => some (3, false, 8, 0, C_X9_requireDeterministicState)
  | 226 => some (2, false, 3, 0, C_X3_setAt)
  | _ => none
theorem bX9_deterministicSet_0 : bX9_deterministicSet 0 = [(.aload_n 0, 1), (.iload_n 1, 1), (.iload_n 2, 1), (.invokevirtual 223, 3), (.aload_n 0, 1), (.iload_n 1, 1), (.invokevirtual 217, 3), (.iload_n 2, 1), (.invokevirtual 226, 3), (.ireturn, 1)] := rfl
theorem uX9_deterministicSet_0 : uX9_deterministicSet 0 = none := rfl
theorem aX9_deterministicSet_217 : aX9_deterministicSet 217 = some (2, false, 8, 0, C_X9_powerset) := rfl
theorem aX9_deterministicSet_223 : aX9_deterministicSet 223 = some (3, false, 8, 0, C_X9_requireDeterministicState) := rfl
theorem aX9_deterministicSet_226 : aX9_deterministicSet 226 = some (2, false, 3, 0, C_X3_setAt) := rfl
set_option maxRecDepth 100000 in
set_option maxHeartbeats 4000000 in
theorem okX9_deterministicSet : pvOkM fX9 aX9_deterministicSet kX9 eX9 (some .int) bX9_deterministicSet uX9_deterministicSet 3 C_X9_deterministicSet := by
  intro Q SW hc as z h hS hz
  unfold C_X9_deterministicSet at h
  split at h
  · rename_i id s i
    obtain ⟨rfl, hp, h1, h2⟩ := h
    refine ⟨Nat.le_of_ble_eq_true rfl, hc 20 _ _ _ fun _ _ => ?_⟩
    clear hc hS hz
    simp only [pvSt1]
    have hsh := pw_sh s
    have hlt := pw_o s
    simp only [C_X9_requireDeterministicState, C_X9_powerset, C_X3_setAt, hsh, pvE_aload_n0, pvLA_s, pvLd, pvE_iload_n1, pvLI_s, pvE_iload_n2, pvE_invokevirtual, pvC1_s, pvC2_s, pvAf_v, pvAf_x, pvPop, pvCs, pvCat, pvPush, aX9_deterministicSet_223, pvSh_0, pvSh_1, pvSh_2, pvSh_3, pvSh_4, pvSh_5, pvSh_6, pvSh_7, pvSh_8, pvSh_9, pvSh_10, pvSh_11, pvSh_12, pvSh_13, pvSh_14, pvSh_15, pvSh_16, pvSh_17, pvSh_18, pvSh_19, pvSh_20, pvSh_21, pvSh_22, pvSh_23, pvSh_24, pvSh_25, pvSh_26, pvSh_27, pvSh_28, pvSh_29, pvSh_30, pvSh_31, pvSh_32, pvSh_33, pvSh_34, pvSh_35, pvSh_36, pvSh_37, pvSh_38, aX9_deterministicSet_217, aX9_deterministicSet_226, pvE_ireturn, bX9_deterministicSet_0, uX9_deterministicSet_0, pvRtG, pvRecv_r, pvUp_nl, pvUp_same, pvUp_ap, pvSt_ap, pvX_c, pvX_ms, pvX_mn, pvE_nil, pvEn_i, pvEn_r, pvEn_l, pvEn_0, pvEn_s, pvRt, pvRv, pvTh, pvKc, pvGo, pvTgt, Int.toNat_natCast, false_and, and_false, true_and, and_true, if_true, if_false, reduceIte, reduceCtorEq, forall_const, false_or, or_false, true_or, or_true, ne_eq, not_true_eq_false, not_false_eq_true, implies_true, false_implies, Nat.reduceAdd, Nat.reduceSub, Nat.reduceMul, Nat.reduceEqDiff, Nat.reduceLT, Nat.reduceLeDiff, Int.reduceAdd, Int.reduceSub, Int.reduceMul, Int.reduceNeg, Int.reduceToNat, Int.reduceLE, Int.reduceLT, Int.reduceEq, Int.reduceNe, and_self]
    by_cases hs : 0 ≤ s ∧ s ≤ 1
    · have h3 := h2 hs
      have hlen : (dsF (autC (z.1 (rwC s)))).length ≤ 16 := okL_len (dsF_ok (hp s hs).1.1)
      (repeat' first | with_reducible apply And.intro | with_reducible intro _)
      all_goals first
        | omega
        | assumption
        | (rename pyF _ _ _ => y1; exact y1.2.1)
        | (rename pyF _ _ _ => y1; exact (h3 _ y1).2 (by omega))
        | (rename pyF _ _ _ => y2
           rename pyF z _ _ => y1
           have h4 := (h3 _ (py_t y1 y2)).1 (by omega)
           rw [psP_set (py_P (py_t y1 y2) hs).1 (by omega)]
           exact h4)
    · have h4 := h1 hs
      (repeat' first | with_reducible apply And.intro | with_reducible intro _) <;> first | omega | assumption
  · exact h.elim
def C_X9_branches : pvC
  | [.inr (.inr (.inl id)), .inl s, .inl i, .inl a], z, Q => id = 0 ∧ pzF z ∧ (¬ (0 ≤ s ∧ s ≤ 1) → Q (.inr 0) z) ∧
      (0 ≤ s ∧ s ≤ 1 → ∀ z' : pvM, pyF z s z' → ((0 ≤ i ∧ i < (dsF (autC (z.1 (rwC s)))).length) ∧ 0 ≤ a ∧ a ≤ 2 → Q (.inl (some (vI ((brF (autC (z.1 (rwC s))) (ndF (dsF (autC (z.1 (rwC s)))) i.toNat) a).length : Int)))) z') ∧ (¬ ((0 ≤ i ∧ i < (dsF (autC (z.1 (rwC s)))).length) ∧ 0 ≤ a ∧ a ≤ 2) → Q (.inr 0) z'))
  | _, _, _ => False
def bX9_branches : Nat → List (Instr × Nat)
  | 0 => [(.aload_n 0, 1), (.iload_n 1, 1), (.iload_n 2, 1), (.invokevirtual 223, 3), (.iload_n 3, 1), (.iconst 3, 1), (.invokestatic 97, 3), (.aload_n 0, 1), (.iload_n 1, 1), (.invokevirtual 217, 3), (.iload_n 2, 1), (.iload_n 3, 1), (.invokevirtual 229, 3), (.ireturn, 1)]
  | _ => []
def uX9_branches : Nat → Option (List Bool)
  | _ => none
def aX9_branches : pvCa
  | 97 => some (2, true, 0, 0, C_X9_requireIndex)
  | 217 => some (2, false, 8, 0, C_X9_powerset)
  | 223 => some (3, false, 8, 0, C_X9_requireDeterministicState)
  | 229 => some (3, false, 3, 0, C_X3_countBranches)
  | _ => none
theorem bX9_branches_0 : bX9_branches 0 = [(.aload_n 0, 1), (.iload_n 1, 1), (.iload_n 2, 1), (.invokevirtual 223, 3), (.iload_n 3, 1), (.iconst 3, 1), (.invokestatic 97, 3), (.aload_n 0, 1), (.iload_n 1, 1), (.invokevirtual 217, 3), (.iload_n 2, 1), (.iload_n 3, 1), (.invokevirtual 229, 3), (.ireturn, 1)] := rfl
theorem uX9_branches_0 : uX9_branches 0 = none := rfl
theorem aX9_branches_97 : aX9_branches 97 = some (2, true, 0, 0, C_X9_requireIndex) := rfl
theorem aX9_branches_217 : aX9_branches 217 = some (2, false, 8, 0, C_X9_powerset) := rfl
theorem aX9_branches_223 : aX9_branches 223 = some (3, false, 8, 0, C_X9_requireDeterministicState) := rfl
theorem aX9_branches_229 : aX9_branches 229 = some (3, false, 3, 0, C_X3_countBranches) := rfl
set_option maxRecDepth 100000 in
set_option maxHeartbeats 4000000 in
theorem okX9_branches : pvOkM fX9 aX9_branches kX9 eX9 (some .int) bX9_branches uX9_branches 4 C_X9_branches := by
  intro Q SW hc as z h hS hz
  unfold C_X9_branches at h
  split at h
  · rename_i id s i a
    obtain ⟨rfl, hp, h1, h2⟩ := h
    refine ⟨Nat.le_of_ble_eq_true rfl, hc 20 _ _ _ fun _ _ => ?_⟩
    clear hc hS hz
    simp only [pvSt1]
    have hsh := pw_sh s
    have hlt := pw_o s
    simp only [C_X9_requireDeterministicState, C_X9_requireIndex, C_X9_powerset, C_X3_countBranches, hsh, pvE_aload_n0, pvLA_s, pvLd, pvE_iload_n1, pvLI_s, pvE_iload_n2, pvE_invokevirtual, pvC1_s, pvC2_s, pvAf_v, pvAf_x, pvPop, pvCs, pvCat, pvPush, aX9_branches_223, pvSh_0, pvSh_1, pvSh_2, pvSh_3, pvSh_4, pvSh_5, pvSh_6, pvSh_7, pvSh_8, pvSh_9, pvSh_10, pvSh_11, pvSh_12, pvSh_13, pvSh_14, pvSh_15, pvSh_16, pvSh_17, pvSh_18, pvSh_19, pvSh_20, pvSh_21, pvSh_22, pvSh_23, pvSh_24, pvSh_25, pvSh_26, pvSh_27, pvSh_28, pvSh_29, pvSh_30, pvSh_31, pvSh_32, pvSh_33, pvSh_34, pvSh_35, pvSh_36, pvSh_37, pvSh_38, pvE_iload_n3, pvE_iconst, pvE_invokestatic (h0 := eX9_97), aX9_branches_97, aX9_branches_217, aX9_branches_229, pvE_ireturn, bX9_branches_0, uX9_branches_0, pvRtG, pvRecv_r, pvUp_nl, pvUp_same, pvUp_ap, pvSt_ap, pvX_c, pvX_ms, pvX_mn, pvE_nil, pvEn_i, pvEn_r, pvEn_l, pvEn_0, pvEn_s, pvRt, pvRv, pvTh, pvKc, pvGo, pvTgt, Int.toNat_natCast, false_and, and_false, true_and, and_true, if_true, if_false, reduceIte, reduceCtorEq, forall_const, false_or, or_false, true_or, or_true, ne_eq, not_true_eq_false, not_false_eq_true, implies_true, false_implies, Nat.reduceAdd, Nat.reduceSub, Nat.reduceMul, Nat.reduceEqDiff, Nat.reduceLT, Nat.reduceLeDiff, Int.reduceAdd, Int.reduceSub, Int.reduceMul, Int.reduceNeg, Int.reduceToNat, Int.reduceLE, Int.reduceLT, Int.reduceEq, Int.reduceNe, and_self]
    by_cases hs : 0 ≤ s ∧ s ≤ 1
    · have h3 := h2 hs
      (repeat' first | with_reducible apply And.intro | with_reducible intro _)
      all_goals first
        | omega
        | assumption
        | (rename pyF _ _ _ => y1; exact y1.2.1)
        | (rename pyF _ _ _ => y1; exact (h3 _ y1).2 (by omega))
        | (rename pyF _ _ _ => y2
           rename pyF z _ _ => y1
           have h4 := (h3 _ (py_t y1 y2)).1 (by omega)
           obtain ⟨p1, p2, -⟩ := py_P (py_t y1 y2) hs
           exact ⟨_, ⟨p2, p1, by omega, by omega⟩, h4⟩)
    · have h4 := h1 hs
      (repeat' first | with_reducible apply And.intro | with_reducible intro _) <;> first | omega | assumption
  · exact h.elim
def C_X9_requireBranch : pvC
  | [.inr (.inr (.inl id)), .inl s, .inl i, .inl a, .inl b], z, Q => id = 0 ∧ pzF z ∧ (¬ (0 ≤ s ∧ s ≤ 1) → Q (.inr 0) z) ∧
      (0 ≤ s ∧ s ≤ 1 → ∀ z' : pvM, pyF z s z' → (((0 ≤ i ∧ i < (dsF (autC (z.1 (rwC s)))).length) ∧ 0 ≤ a ∧ a ≤ 2) ∧ 0 ≤ b ∧ b < (brF (autC (z.1 (rwC s))) (ndF (dsF (autC (z.1 (rwC s)))) i.toNat) a).length → Q (.inl none) z') ∧
        (¬ (((0 ≤ i ∧ i < (dsF (autC (z.1 (rwC s)))).length) ∧ 0 ≤ a ∧ a ≤ 2) ∧ 0 ≤ b ∧ b < (brF (autC (z.1 (rwC s))) (ndF (dsF (autC (z.1 (rwC s)))) i.toNat) a).length) → Q (.inr 0) z'))
  | _, _, _ => False
def bX9_requireBranch : Nat → List (Instr × Nat)
  | 0 => [(.aload_n 0, 1), (.iload_n 1, 1), (.iload_n 2, 1), (.invokevirtual 223, 3), (.iload_n 3, 1), (.iconst 3, 1), (.invokestatic 97, 3), (.iload 4, 2), (.aload_n 0, 1), (.iload_n 1, 1), (.invokevirtual 217, 3), (.iload_n 2, 1), (.iload_n 3, 1), (.invokevirtual 229, 3), (.invokestatic 97, 3), (.return_, 1)]
  | _ => []
def uX9_requireBranch : Nat → Option (List Bool)
  | _ => none
def aX9_requireBranch : pvCa
  | 97 => some (2, true, 0, 0, C_X9_requireIndex)
  | 217 => some (2, false, 8, 0, C_X9_powerset)
  | 223 => some (3, false, 8, 0, C_X9_requireDeterministicState)
  | 229 => some (3, false, 3, 0, C_X3_countBranches)
  | _ => none
theorem bX9_requireBranch_0 : bX9_requireBranch 0 = [(.aload_n 0, 1), (.iload_n 1, 1), (.iload_n 2, 1), (.invokevirtual 223, 3), (.iload_n 3, 1), (.iconst 3, 1), (.invokestatic 97, 3), (.iload 4, 2), (.aload_n 0, 1), (.iload_n 1, 1), (.invokevirtual 217, 3), (.iload_n 2, 1), (.iload_n 3, 1), (.invokevirtual 229, 3), (.invokestatic 97, 3), (.return_, 1)] := rfl
theorem uX9_requireBranch_0 : uX9_requireBranch 0 = none := rfl
theorem aX9_requireBranch_97 : aX9_requireBranch 97 = some (2, true, 0, 0, C_X9_requireIndex) := rfl
theorem aX9_requireBranch_217 : aX9_requireBranch 217 = some (2, false, 8, 0, C_X9_powerset) := rfl
theorem aX9_requireBranch_223 : aX9_requireBranch 223 = some (3, false, 8, 0, C_X9_requireDeterministicState) := rfl
theorem aX9_requireBranch_229 : aX9_requireBranch 229 = some (3, false, 3, 0, C_X3_countBranches) := rfl
set_option maxRecDepth 100000 in
set_option maxHeartbeats 4000000 in
theorem okX9_requireBranch : pvOkM fX9 aX9_requireBranch kX9 eX9 none bX9_requireBranch uX9_requireBranch 5 C_X9_requireBranch := by
  intro Q SW hc as z h hS hz
  unfold C_X9_requireBranch at h
  split at h
  · rename_i id s i a b
    obtain ⟨rfl, hp, h1, h2⟩ := h
    refine ⟨Nat.le_of_ble_eq_true rfl, hc 20 _ _ _ fun _ _ => ?_⟩
    clear hc hS hz
    simp only [pvSt1]
    have hsh := pw_sh s
    have hlt := pw_o s
    simp only [C_X9_requireDeterministicState, C_X9_requireIndex, C_X9_powerset, C_X3_countBranches, hsh, pvE_aload_n0, pvLA_s, pvLd, pvE_iload_n1, pvLI_s, pvE_iload_n2, pvE_invokevirtual, pvC1_s, pvC2_s, pvAf_v, pvAf_x, pvPop, pvCs, pvCat, pvPush, aX9_requireBranch_223, pvSh_0, pvSh_1, pvSh_2, pvSh_3, pvSh_4, pvSh_5, pvSh_6, pvSh_7, pvSh_8, pvSh_9, pvSh_10, pvSh_11, pvSh_12, pvSh_13, pvSh_14, pvSh_15, pvSh_16, pvSh_17, pvSh_18, pvSh_19, pvSh_20, pvSh_21, pvSh_22, pvSh_23, pvSh_24, pvSh_25, pvSh_26, pvSh_27, pvSh_28, pvSh_29, pvSh_30, pvSh_31, pvSh_32, pvSh_33, pvSh_34, pvSh_35, pvSh_36, pvSh_37, pvSh_38, pvE_iload_n3, pvE_iconst, pvE_invokestatic (h0 := eX9_97), aX9_requireBranch_97, pvE_iload, aX9_requireBranch_217, aX9_requireBranch_229, pvE_return, bX9_requireBranch_0, uX9_requireBranch_0, pvRtG, pvRecv_r, pvUp_nl, pvUp_same, pvUp_ap, pvSt_ap, pvX_c, pvX_ms, pvX_mn, pvE_nil, pvEn_i, pvEn_r, pvEn_l, pvEn_0, pvEn_s, pvRt, pvRv, pvTh, pvKc, pvGo, pvTgt, Int.toNat_natCast, false_and, and_false, true_and, and_true, if_true, if_false, reduceIte, reduceCtorEq, forall_const, false_or, or_false, true_or, or_true, ne_eq, not_true_eq_false, not_false_eq_true, implies_true, false_implies, Nat.reduceAdd, Nat.reduceSub, Nat.reduceMul, Nat.reduceEqDiff, Nat.reduceLT, Nat.reduceLeDiff, Int.reduceAdd, Int.reduceSub, Int.reduceMul, Int.reduceNeg, Int.reduceToNat, Int.reduceLE, Int.reduceLT, Int.reduceEq, Int.reduceNe, and_self]
    by_cases hs : 0 ≤ s ∧ s ≤ 1
    · have h3 := h2 hs
      (repeat' first | with_reducible apply And.intro | with_reducible intro _)
      all_goals first
        | omega
        | assumption
        | (rename pyF _ _ _ => y1; exact y1.2.1)
        | (rename pyF _ _ _ => y1; exact (h3 _ y1).2 (by omega))
        | (rename pyF _ _ _ => y2
           rename pyF z _ _ => y1
           have h4 := h3 _ (py_t y1 y2)
           obtain ⟨p1, p2, -⟩ := py_P (py_t y1 y2) hs
           exact ⟨_, ⟨p2, p1, by omega, by omega⟩, fun q => h4.1 ⟨⟨⟨by omega, by omega⟩, by omega, by omega⟩, q⟩, fun q => h4.2 (fun q' => q q'.2)⟩)
    · have h4 := h1 hs
      (repeat' first | with_reducible apply And.intro | with_reducible intro _) <;> first | omega | assumption
  · exact h.elim
def C_X9_branchTarget : pvC
  | [.inr (.inr (.inl id)), .inl s, .inl i, .inl a, .inl b], z, Q => id = 0 ∧ pzF z ∧ (¬ (0 ≤ s ∧ s ≤ 1) → Q (.inr 0) z) ∧
      (0 ≤ s ∧ s ≤ 1 → ∀ z' : pvM, pyF z s z' → (((0 ≤ i ∧ i < (dsF (autC (z.1 (rwC s)))).length) ∧ 0 ≤ a ∧ a ≤ 2) ∧ 0 ≤ b ∧ b < (brF (autC (z.1 (rwC s))) (ndF (dsF (autC (z.1 (rwC s)))) i.toNat) a).length → Q (.inl (some (vI (ixF (dsF (autC (z.1 (rwC s)))) (ndF (brF (autC (z.1 (rwC s))) (ndF (dsF (autC (z.1 (rwC s)))) i.toNat) a) b.toNat))))) z') ∧
        (¬ (((0 ≤ i ∧ i < (dsF (autC (z.1 (rwC s)))).length) ∧ 0 ≤ a ∧ a ≤ 2) ∧ 0 ≤ b ∧ b < (brF (autC (z.1 (rwC s))) (ndF (dsF (autC (z.1 (rwC s)))) i.toNat) a).length) → Q (.inr 0) z'))
  | _, _, _ => False
theorem br_r {A : Aut} (hw : WfA A) (s a : Int) {b : Int} (hb : 0 ≤ b ∧ b < (brF A s a).length) : 0 ≤ ndF (brF A s a) b.toNat ∧ ndF (brF A s a) b.toNat ≤ 15 :=
  (brK_ok hw s a nVal).2 _ (ndF_m (by show b.toNat < (brF A s a).length; omega))
def bX9_branchTarget : Nat → List (Instr × Nat)
  | 0 => [(.aload_n 0, 1), (.iload_n 1, 1), (.iload_n 2, 1), (.iload_n 3, 1), (.iload 4, 2), (.invokevirtual 232, 3), (.aload_n 0, 1), (.iload_n 1, 1), (.invokevirtual 217, 3), (.astore 5, 2), (.aload 5, 2), (.aload 5, 2), (.iload_n 2, 1), (.iload_n 3, 1), (.iload 4, 2), (.invokevirtual 236, 3), (.invokevirtual 239, 3), (.ireturn, 1)]
  | _ => []
def uX9_branchTarget : Nat → Option (List Bool)
  | _ => none
def aX9_branchTarget : pvCa
  | 217 => some (2, false, 8, 0, C_X9_powerset)
  | 232 => some (5, false, 8, 0, C_X9_requireBranch)
  | 236 => some (4, false, 3, 0, C_X3_branchSet)
  | 239 => some (2, false, 3, 0, C_X3_numberOf)
  | _ => none
theorem bX9_branchTarget_0 : bX9_branchTarget 0 = [(.aload_n 0, 1), (.iload_n 1, 1), (.iload_n 2, 1), (.iload_n 3, 1), (.iload 4, 2), (.invokevirtual 232, 3), (.aload_n 0, 1), (.iload_n 1, 1), (.invokevirtual 217, 3), (.astore 5, 2), (.aload 5, 2), (.aload 5, 2), (.iload_n 2, 1), (.iload_n 3, 1), (.iload 4, 2), (.invokevirtual 236, 3), (.invokevirtual 239, 3), (.ireturn, 1)] := rfl
theorem uX9_branchTarget_0 : uX9_branchTarget 0 = none := rfl
theorem aX9_branchTarget_217 : aX9_branchTarget 217 = some (2, false, 8, 0, C_X9_powerset) := rfl
theorem aX9_branchTarget_232 : aX9_branchTarget 232 = some (5, false, 8, 0, C_X9_requireBranch) := rfl
theorem aX9_branchTarget_236 : aX9_branchTarget 236 = some (4, false, 3, 0, C_X3_branchSet) := rfl
theorem aX9_branchTarget_239 : aX9_branchTarget 239 = some (2, false, 3, 0, C_X3_numberOf) := rfl
set_option maxRecDepth 100000 in
set_option maxHeartbeats 4000000 in
theorem okX9_branchTarget : pvOkM fX9 aX9_branchTarget kX9 eX9 (some .int) bX9_branchTarget uX9_branchTarget 6 C_X9_branchTarget := by
  intro Q SW hc as z h hS hz
  unfold C_X9_branchTarget at h
  split at h
  · rename_i id s i a b
    obtain ⟨rfl, hp, h1, h2⟩ := h
    refine ⟨Nat.le_of_ble_eq_true rfl, hc 20 _ _ _ fun _ _ => ?_⟩
    clear hc hS hz
    simp only [pvSt1]
    have hsh := pw_sh s
    have hlt := pw_o s
    simp only [C_X9_requireBranch, C_X9_powerset, C_X3_branchSet, C_X3_numberOf, hsh, pvE_aload_n0, pvLA_s, pvLd, pvE_iload_n1, pvLI_s, pvE_iload_n2, pvE_iload_n3, pvE_iload, pvE_invokevirtual, pvC1_s, pvC2_s, pvAf_v, pvAf_x, pvPop, pvCs, pvCat, pvPush, aX9_branchTarget_232, pvSh_0, pvSh_1, pvSh_2, pvSh_3, pvSh_4, pvSh_5, pvSh_6, pvSh_7, pvSh_8, pvSh_9, pvSh_10, pvSh_11, pvSh_12, pvSh_13, pvSh_14, pvSh_15, pvSh_16, pvSh_17, pvSh_18, pvSh_19, pvSh_20, pvSh_21, pvSh_22, pvSh_23, pvSh_24, pvSh_25, pvSh_26, pvSh_27, pvSh_28, pvSh_29, pvSh_30, pvSh_31, pvSh_32, pvSh_33, pvSh_34, pvSh_35, pvSh_36, pvSh_37, pvSh_38, aX9_branchTarget_217, pvE_astore, pvS1, List.length_cons, List.length_nil, pvClr_i, pvClr_r, pvClr_l, pvClr_d, pvClr_f, pvClr_n, pvE_aload, aX9_branchTarget_236, aX9_branchTarget_239, pvE_ireturn, bX9_branchTarget_0, uX9_branchTarget_0, pvRtG, pvRecv_r, pvUp_nl, pvUp_same, pvUp_ap, pvSt_ap, pvX_c, pvX_ms, pvX_mn, pvE_nil, pvEn_i, pvEn_r, pvEn_l, pvEn_0, pvEn_s, pvRt, pvRv, pvTh, pvKc, pvGo, pvTgt, Int.toNat_natCast, false_and, and_false, true_and, and_true, if_true, if_false, reduceIte, reduceCtorEq, forall_const, false_or, or_false, true_or, or_true, ne_eq, not_true_eq_false, not_false_eq_true, implies_true, false_implies, Nat.reduceAdd, Nat.reduceSub, Nat.reduceMul, Nat.reduceEqDiff, Nat.reduceLT, Nat.reduceLeDiff, Int.reduceAdd, Int.reduceSub, Int.reduceMul, Int.reduceNeg, Int.reduceToNat, Int.reduceLE, Int.reduceLT, Int.reduceEq, Int.reduceNe, and_self]
    by_cases hs : 0 ≤ s ∧ s ≤ 1
    · have h3 := h2 hs
      (repeat' first | with_reducible apply And.intro | with_reducible intro _)
      all_goals first
        | omega
        | assumption
        | (rename pyF _ _ _ => y1; exact y1.2.1)
        | (rename pyF _ _ _ => y1; exact (h3 _ y1).2 (by omega))
        | (rename pyF _ _ _ => y2
           rename pyF z _ _ => y1
           have h4 := (h3 _ (py_t y1 y2)).1 (by omega)
           obtain ⟨p1, p2, -⟩ := py_P (py_t y1 y2) hs
           have hr := br_r p2 (ndF (dsF (autC (z.1 (rwC s)))) i.toNat) a (b := b) (by omega)
           rw [← py_n (py_t y1 y2) hs hr] at h4
           exact ⟨_, ⟨p2, p1, by omega, by omega, by omega⟩, by omega, hlt, hr, h4⟩)
    · have h4 := h1 hs
      (repeat' first | with_reducible apply And.intro | with_reducible intro _) <;> first | omega | assumption
  · exact h.elim
def C_X9_branchValuations : pvC
  | [.inr (.inr (.inl id)), .inl s, .inl i, .inl a, .inl b], z, Q => id = 0 ∧ pzF z ∧ (¬ (0 ≤ s ∧ s ≤ 1) → Q (.inr 0) z) ∧
      (0 ≤ s ∧ s ≤ 1 → ∀ z' : pvM, pyF z s z' → (((0 ≤ i ∧ i < (dsF (autC (z.1 (rwC s)))).length) ∧ 0 ≤ a ∧ a ≤ 2) ∧ 0 ≤ b ∧ b < (brF (autC (z.1 (rwC s))) (ndF (dsF (autC (z.1 (rwC s)))) i.toNat) a).length → Q (.inl (some (vI (cvK (autC (z.1 (rwC s))) (ndF (dsF (autC (z.1 (rwC s)))) i.toNat) a (ndF (brF (autC (z.1 (rwC s))) (ndF (dsF (autC (z.1 (rwC s)))) i.toNat) a) b.toNat) nVal)))) z') ∧
        (¬ (((0 ≤ i ∧ i < (dsF (autC (z.1 (rwC s)))).length) ∧ 0 ≤ a ∧ a ≤ 2) ∧ 0 ≤ b ∧ b < (brF (autC (z.1 (rwC s))) (ndF (dsF (autC (z.1 (rwC s)))) i.toNat) a).length) → Q (.inr 0) z'))
  | _, _, _ => False
def bX9_branchValuations : Nat → List (Instr × Nat)
  | 0 => [(.aload_n 0, 1), (.iload_n 1, 1), (.iload_n 2, 1), (.iload_n 3, 1), (.iload 4, 2), (.invokevirtual 232, 3), (.aload_n 0, 1), (.iload_n 1, 1), (.invokevirtual 217, 3), (.astore 5, 2), (.aload 5, 2), (.iload_n 2, 1), (.iload_n 3, 1), (.aload 5, 2), (.iload_n 2, 1), (.iload_n 3, 1), (.iload 4, 2), (.invokevirtual 236, 3), (.invokevirtual 242, 3), (.ireturn, 1)]
  | _ => []
def uX9_branchValuations : Nat → Option (List Bool)
  | _ => none
def aX9_branchValuations : pvCa
  | 217 => some (2, false, 8, 0, C_X9_powerset)
  | 232 => some (5, false, 8, 0, C_X9_requireBranch)
  | 236 => some (4, false, 3, 0, C_X3_branchSet)
  | 242 => some (4, false, 3, 0, C_X3_countValuations)
  | _ => none
theorem bX9_branchValuations_0 : bX9_branchValuations 0 = [(.aload_n 0, 1), (.iload_n 1, 1), (.iload_n 2, 1), (.iload_n 3, 1), (.iload 4, 2), (.invokevirtual 232, 3), (.aload_n 0, 1), (.iload_n 1, 1), (.invokevirtual 217, 3), (.astore 5, 2), (.aload 5, 2), (.iload_n 2, 1), (.iload_n 3, 1), (.aload 5, 2), (.iload_n 2, 1), (.iload_n 3, 1), (.iload 4, 2), (.invokevirtual 236, 3), (.invokevirtual 242, 3), (.ireturn, 1)] := rfl
theorem uX9_branchValuations_0 : uX9_branchValuations 0 = none := rfl
theorem aX9_branchValuations_217 : aX9_branchValuations 217 = some (2, false, 8, 0, C_X9_powerset) := rfl
theorem aX9_branchValuations_232 : aX9_branchValuations 232 = some (5, false, 8, 0, C_X9_requireBranch) := rfl
theorem aX9_branchValuations_236 : aX9_branchValuations 236 = some (4, false, 3, 0, C_X3_branchSet) := rfl
theorem aX9_branchValuations_242 : aX9_branchValuations 242 = some (4, false, 3, 0, C_X3_countValuations) := rfl
set_option maxRecDepth 100000 in
set_option maxHeartbeats 4000000 in
theorem okX9_branchValuations : pvOkM fX9 aX9_branchValuations kX9 eX9 (some .int) bX9_branchValuations uX9_branchValuations 6 C_X9_branchValuations := by
  intro Q SW hc as z h hS hz
  unfold C_X9_branchValuations at h
  split at h
  · rename_i id s i a b
    obtain ⟨rfl, hp, h1, h2⟩ := h
    refine ⟨Nat.le_of_ble_eq_true rfl, hc 20 _ _ _ fun _ _ => ?_⟩
    clear hc hS hz
    simp only [pvSt1]
    have hsh := pw_sh s
    have hlt := pw_o s
    simp only [C_X9_requireBranch, C_X9_powerset, C_X3_branchSet, C_X3_countValuations, hsh, pvE_aload_n0, pvLA_s, pvLd, pvE_iload_n1, pvLI_s, pvE_iload_n2, pvE_iload_n3, pvE_iload, pvE_invokevirtual, pvC1_s, pvC2_s, pvAf_v, pvAf_x, pvPop, pvCs, pvCat, pvPush, aX9_branchValuations_232, pvSh_0, pvSh_1, pvSh_2, pvSh_3, pvSh_4, pvSh_5, pvSh_6, pvSh_7, pvSh_8, pvSh_9, pvSh_10, pvSh_11, pvSh_12, pvSh_13, pvSh_14, pvSh_15, pvSh_16, pvSh_17, pvSh_18, pvSh_19, pvSh_20, pvSh_21, pvSh_22, pvSh_23, pvSh_24, pvSh_25, pvSh_26, pvSh_27, pvSh_28, pvSh_29, pvSh_30, pvSh_31, pvSh_32, pvSh_33, pvSh_34, pvSh_35, pvSh_36, pvSh_37, pvSh_38, aX9_branchValuations_217, pvE_astore, pvS1, List.length_cons, List.length_nil, pvClr_i, pvClr_r, pvClr_l, pvClr_d, pvClr_f, pvClr_n, pvE_aload, aX9_branchValuations_236, aX9_branchValuations_242, pvE_ireturn, bX9_branchValuations_0, uX9_branchValuations_0, pvRtG, pvRecv_r, pvUp_nl, pvUp_same, pvUp_ap, pvSt_ap, pvX_c, pvX_ms, pvX_mn, pvE_nil, pvEn_i, pvEn_r, pvEn_l, pvEn_0, pvEn_s, pvRt, pvRv, pvTh, pvKc, pvGo, pvTgt, Int.toNat_natCast, false_and, and_false, true_and, and_true, if_true, if_false, reduceIte, reduceCtorEq, forall_const, false_or, or_false, true_or, or_true, ne_eq, not_true_eq_false, not_false_eq_true, implies_true, false_implies, Nat.reduceAdd, Nat.reduceSub, Nat.reduceMul, Nat.reduceEqDiff, Nat.reduceLT, Nat.reduceLeDiff, Int.reduceAdd, Int.reduceSub, Int.reduceMul, Int.reduceNeg, Int.reduceToNat, Int.reduceLE, Int.reduceLT, Int.reduceEq, Int.reduceNe, and_self]
    by_cases hs : 0 ≤ s ∧ s ≤ 1
    · have h3 := h2 hs
      (repeat' first | with_reducible apply And.intro | with_reducible intro _)
      all_goals first
        | omega
        | assumption
        | (rename pyF _ _ _ => y1; exact y1.2.1)
        | (rename pyF _ _ _ => y1; exact (h3 _ y1).2 (by omega))
        | (rename pyF _ _ _ => y2
           rename pyF z _ _ => y1
           have h4 := (h3 _ (py_t y1 y2)).1 (by omega)
           obtain ⟨p1, p2, -⟩ := py_P (py_t y1 y2) hs
           exact ⟨_, ⟨p2, p1, by omega, by omega, by omega⟩, by omega, hlt, _, ⟨p2, p1, by omega, by omega⟩, h4⟩)
    · have h4 := h1 hs
      (repeat' first | with_reducible apply And.intro | with_reducible intro _) <;> first | omega | assumption
  · exact h.elim
def C_X9_deterministicRun : pvC
  | [.inr (.inr (.inl id)), .inl s], z, Q => id = 0 ∧ (pzF z ∧ WcF z.1) ∧ (¬ (0 ≤ s ∧ s ≤ 1) → Q (.inr 0) z) ∧
      (0 ≤ s ∧ s ≤ 1 → ∀ z' : pvM, pyF z s z' → Q (.inl (some (vI (ixF (dsF (autC (z.1 (rwC s)))) (afK (autC (z.1 (rwC s))) (z.1 21) (z.1 22) (z.1 20 4).toNat))))) z')
  | _, _, _ => False
def bX9_deterministicRun : Nat → List (Instr × Nat)
  | 0 => [(.iload_n 1, 1), (.iconst 2, 1), (.invokestatic 97, 3), (.aload_n 0, 1), (.iload_n 1, 1), (.invokevirtual 217, 3), (.aload_n 0, 1), (.iload_n 1, 1), (.invokevirtual 104, 3), (.aload_n 0, 1), (.getfield 42, 3), (.aload_n 0, 1), (.getfield 42, 3), (.getfield 172, 3), (.invokevirtual 192, 3), (.invokevirtual 239, 3), (.ireturn, 1)]
  | _ => []
def uX9_deterministicRun : Nat → Option (List Bool)
  | _ => none
def aX9_deterministicRun : pvCa
  | 97 => some (2, true, 0, 0, C_X9_requireIndex)
  | 104 => some (2, false, 8, 0, C_X9_automaton)
  | 192 => some (3, false, 0, 0, C_X0_statesAfterEvents)
  | 217 => some (2, false, 8, 0, C_X9_powerset)
  | 239 => some (2, false, 3, 0, C_X3_numberOf)
  | _ => none
theorem bX9_deterministicRun_0 : bX9_deterministicRun 0 = [(.iload_n 1, 1), (.iconst 2, 1), (.invokestatic 97, 3), (.aload_n 0, 1), (.iload_n 1, 1), (.invokevirtual 217, 3), (.aload_n 0, 1), (.iload_n 1, 1), (.invokevirtual 104, 3), (.aload_n 0, 1), (.getfield 42, 3), (.aload_n 0, 1), (.getfield 42, 3), (.getfield 172, 3), (.invokevirtual 192, 3), (.invokevirtual 239, 3), (.ireturn, 1)] := rfl
theorem uX9_deterministicRun_0 : uX9_deterministicRun 0 = none := rfl
theorem aX9_deterministicRun_97 : aX9_deterministicRun 97 = some (2, true, 0, 0, C_X9_requireIndex) := rfl
theorem aX9_deterministicRun_104 : aX9_deterministicRun 104 = some (2, false, 8, 0, C_X9_automaton) := rfl
theorem aX9_deterministicRun_192 : aX9_deterministicRun 192 = some (3, false, 0, 0, C_X0_statesAfterEvents) := rfl
theorem aX9_deterministicRun_217 : aX9_deterministicRun 217 = some (2, false, 8, 0, C_X9_powerset) := rfl
theorem aX9_deterministicRun_239 : aX9_deterministicRun 239 = some (2, false, 3, 0, C_X3_numberOf) := rfl
set_option maxRecDepth 100000 in
set_option maxHeartbeats 4000000 in
theorem okX9_deterministicRun : pvOkM fX9 aX9_deterministicRun kX9 eX9 (some .int) bX9_deterministicRun uX9_deterministicRun 2 C_X9_deterministicRun := by
  intro Q SW hc as z h hS hz
  unfold C_X9_deterministicRun at h
  split at h
  · rename_i id s
    obtain ⟨rfl, ⟨hp, hwc⟩, h1, h2⟩ := h
    refine ⟨Nat.le_of_ble_eq_true rfl, hc 20 _ _ _ fun _ _ => ?_⟩
    clear hc hS hz
    simp only [pvSt1]
    have hsh := pw_sh s
    have hlt := pw_o s
    have w4 := hwc.1.1
    by_cases hs : 0 ≤ s ∧ s ≤ 1
    · have h3 := h2 hs
      have hw := (hp s hs).1
      have fin : ∀ z' : pvM, pyF z s z' → (WfC (z'.1 (rwC s)) ∧ WcF z'.1 ∧ 0 ≤ z'.1 20 4) ∧ (0 ≤ afK (autC (z'.1 (rwC s))) (z'.1 21) (z'.1 22) (z'.1 20 4).toNat ∧ afK (autC (z'.1 (rwC s))) (z'.1 21) (z'.1 22) (z'.1 20 4).toNat ≤ 15) ∧ Q (.inl (some (vI (z'.1 (pwF s + 3) (afK (autC (z'.1 (rwC s))) (z'.1 21) (z'.1 22) (z'.1 20 4).toNat).toNat)))) z' := by
        intro z' y1
        have e : ∀ k, 20 ≤ k → z'.1 k = z.1 k := fun k hk => y1.1.1 k (by simp; omega)
        rw [py_r y1, e 21 (by decide), e 22 (by decide), e 20 (by decide)]
        have hwc' : WcF z'.1 := by unfold WcF; rw [e 20 (by decide), e 21 (by decide), e 22 (by decide), e 23 (by decide)]; exact hwc
        have hm := dsF_af hw.1 hwc.1 (z.1 20 4).toNat (by omega)
        have hr := (dsF_ok hw.1).2 _ hm
        have h4 := h3 z' y1
        rw [← py_n y1 hs hr] at h4
        exact ⟨⟨hw, hwc', w4.1⟩, hr, h4⟩
      simp only [C_X9_powerset, C_X9_requireIndex, C_X9_automaton, C_X0_statesAfterEvents, C_X3_numberOf, hsh, pvE_iload_n1, pvLI_s, pvLd, pvE_iconst, pvE_invokestatic (h0 := eX9_97), pvC1_s, pvC2_s, pvAf_v, pvAf_x, pvPop, pvCs, pvCat, pvPush, aX9_deterministicRun_97, pvE_aload_n0, pvLA_s, pvE_invokevirtual, aX9_deterministicRun_217, pvSh_0, pvSh_1, pvSh_2, pvSh_3, pvSh_4, pvSh_5, pvSh_6, pvSh_7, pvSh_8, pvSh_9, pvSh_10, pvSh_11, pvSh_12, pvSh_13, pvSh_14, pvSh_15, pvSh_16, pvSh_17, pvSh_18, pvSh_19, pvSh_20, pvSh_21, pvSh_22, pvSh_23, pvSh_24, pvSh_25, pvSh_26, pvSh_27, pvSh_28, pvSh_29, pvSh_30, pvSh_31, pvSh_32, pvSh_33, pvSh_34, pvSh_35, pvSh_36, pvSh_37, pvSh_38, aX9_deterministicRun_104, pvE_getfield, pvGf_0, pvGf_1, pvGf_2, fX9_42, pvRf_0_0, pvRf_0_1, pvRf_0_2, pvRf_0_3, pvRf_0_4, pvRf_0_5, pvRf_0_6, pvRf_0_7, pvRf_0_8, pvRf_0_9, pvRf_0_10, pvRf_1_0, pvRf_3_0, pvRf_5_0, pvRf_5_1, pvRf_5_2, pvRf_9_0, pvRf_9_1, pvRf_9_2, pvRf_13_0, pvRf_13_1, pvRf_13_2, pvRf_17_0, pvRf_17_2, pvRf_20_0, pvRf_20_1, pvRf_20_2, pvRf_24_0, pvRf_24_1, pvRf_24_2, pvRf_28_0, pvRf_28_1, pvRf_28_2, pvRf_28_3, pvRf_33_0, pvRf_33_1, pvRf_36_0, pvRf_36_1, fX9_172, aX9_deterministicRun_192, aX9_deterministicRun_239, pvE_ireturn, bX9_deterministicRun_0, uX9_deterministicRun_0, pvRtG, pvRecv_r, pvUp_nl, pvUp_same, pvUp_ap, pvSt_ap, pvX_c, pvX_ms, pvX_mn, pvE_nil, pvEn_i, pvEn_r, pvEn_l, pvEn_0, pvEn_s, pvRt, pvRv, pvTh, pvKc, pvGo, pvTgt, Int.toNat_natCast, false_and, and_false, true_and, and_true, if_true, if_false, reduceIte, reduceCtorEq, forall_const, false_or, or_false, true_or, or_true, ne_eq, not_true_eq_false, not_false_eq_true, implies_true, false_implies, Nat.reduceAdd, Nat.reduceSub, Nat.reduceMul, Nat.reduceEqDiff, Nat.reduceLT, Nat.reduceLeDiff, Int.reduceAdd, Int.reduceSub, Int.reduceMul, Int.reduceNeg, Int.reduceToNat, Int.reduceLE, Int.reduceLT, Int.reduceEq, Int.reduceNe, and_self]
      rcases (show s = 0 ∨ s = 1 by omega) with rfl | rfl
      · have r0 : rwC 0 = 2 := rfl
        rw [r0] at fin
        (repeat' first | with_reducible apply And.intro | with_reducible intro _)
        all_goals first
          | omega
          | assumption
          | (rename pyF _ _ _ => y1
             rename pvM => z1
             obtain ⟨⟨f1, f2, f3⟩, f4, f5⟩ := fin z1 y1
             first | omega | assumption | exact f4.1 | exact f4.2)
      · have r0 : rwC 1 = 4 := rfl
        rw [r0] at fin
        (repeat' first | with_reducible apply And.intro | with_reducible intro _)
        all_goals first
          | omega
          | assumption
          | (rename pyF _ _ _ => y1
             rename pvM => z1
             obtain ⟨⟨f1, f2, f3⟩, f4, f5⟩ := fin z1 y1
             first | omega | assumption | exact f4.1 | exact f4.2)
    · have h4 := h1 hs
      simp only [C_X9_powerset, C_X9_requireIndex, C_X9_automaton, C_X0_statesAfterEvents, C_X3_numberOf, hsh, pvE_iload_n1, pvLI_s, pvLd, pvE_iconst, pvE_invokestatic (h0 := eX9_97), pvC1_s, pvC2_s, pvAf_v, pvAf_x, pvPop, pvCs, pvCat, pvPush, aX9_deterministicRun_97, pvE_aload_n0, pvLA_s, pvE_invokevirtual, aX9_deterministicRun_217, pvSh_0, pvSh_1, pvSh_2, pvSh_3, pvSh_4, pvSh_5, pvSh_6, pvSh_7, pvSh_8, pvSh_9, pvSh_10, pvSh_11, pvSh_12, pvSh_13, pvSh_14, pvSh_15, pvSh_16, pvSh_17, pvSh_18, pvSh_19, pvSh_20, pvSh_21, pvSh_22, pvSh_23, pvSh_24, pvSh_25, pvSh_26, pvSh_27, pvSh_28, pvSh_29, pvSh_30, pvSh_31, pvSh_32, pvSh_33, pvSh_34, pvSh_35, pvSh_36, pvSh_37, pvSh_38, aX9_deterministicRun_104, pvE_getfield, pvGf_0, pvGf_1, pvGf_2, fX9_42, pvRf_0_0, pvRf_0_1, pvRf_0_2, pvRf_0_3, pvRf_0_4, pvRf_0_5, pvRf_0_6, pvRf_0_7, pvRf_0_8, pvRf_0_9, pvRf_0_10, pvRf_1_0, pvRf_3_0, pvRf_5_0, pvRf_5_1, pvRf_5_2, pvRf_9_0, pvRf_9_1, pvRf_9_2, pvRf_13_0, pvRf_13_1, pvRf_13_2, pvRf_17_0, pvRf_17_2, pvRf_20_0, pvRf_20_1, pvRf_20_2, pvRf_24_0, pvRf_24_1, pvRf_24_2, pvRf_28_0, pvRf_28_1, pvRf_28_2, pvRf_28_3, pvRf_33_0, pvRf_33_1, pvRf_36_0, pvRf_36_1, fX9_172, aX9_deterministicRun_192, aX9_deterministicRun_239, pvE_ireturn, bX9_deterministicRun_0, uX9_deterministicRun_0, pvRtG, pvRecv_r, pvUp_nl, pvUp_same, pvUp_ap, pvSt_ap, pvX_c, pvX_ms, pvX_mn, pvE_nil, pvEn_i, pvEn_r, pvEn_l, pvEn_0, pvEn_s, pvRt, pvRv, pvTh, pvKc, pvGo, pvTgt, Int.toNat_natCast, false_and, and_false, true_and, and_true, if_true, if_false, reduceIte, reduceCtorEq, forall_const, false_or, or_false, true_or, or_true, ne_eq, not_true_eq_false, not_false_eq_true, implies_true, false_implies, Nat.reduceAdd, Nat.reduceSub, Nat.reduceMul, Nat.reduceEqDiff, Nat.reduceLT, Nat.reduceLeDiff, Int.reduceAdd, Int.reduceSub, Int.reduceMul, Int.reduceNeg, Int.reduceToNat, Int.reduceLE, Int.reduceLT, Int.reduceEq, Int.reduceNe, and_self]
      (repeat' first | with_reducible apply And.intro | with_reducible intro _) <;> first | omega | assumption
  · exact h.elim
def C_X9_averageBranches : pvC
  | [.inr (.inr (.inl id)), .inl s], z, Q => id = 0 ∧ pzF z ∧ (¬ (0 ≤ s ∧ s ≤ 1) → Q (.inr 0) z) ∧
      (0 ≤ s ∧ s ≤ 1 → ∀ z' : pvM, pyF z s z' → Q (.inl (some (vF (avD (baK (autC (z.1 (rwC s))) (dsF (autC (z.1 (rwC s)))).length) (3 * (dsF (autC (z.1 (rwC s)))).length))))) z')
  | _, _, _ => False
def bX9_averageBranches : Nat → List (Instr × Nat)
  | 0 => [(.iload_n 1, 1), (.iconst 2, 1), (.invokestatic 97, 3), (.aload_n 0, 1), (.iload_n 1, 1), (.invokevirtual 217, 3), (.astore_n 2, 1), (.iconst 1, 1), (.aload_n 2, 1), (.getfield 221, 3), (.invokestatic 268, 3), (.istore_n 3, 1), (.aload_n 2, 1), (.invokevirtual 273, 3), (.i2f, 1), (.iconst 3, 1), (.iload_n 3, 1), (.imul, 1), (.i2f, 1), (.fdiv, 1), (.freturn, 1)]
  | _ => []
def uX9_averageBranches : Nat → Option (List Bool)
  | _ => none
def aX9_averageBranches : pvCa
  | 97 => some (2, true, 0, 0, C_X9_requireIndex)
  | 217 => some (2, false, 8, 0, C_X9_powerset)
  | 268 => some (2, true, 0, 0, C_J9_max_7cf53)
  | 273 => some (1, false, 3, 0, C_X3_countAllBranches)
  | _ => none
theorem bX9_averageBranches_0 : bX9_averageBranches 0 = [(.iload_n 1, 1), (.iconst 2, 1), (.invokestatic 97, 3), (.aload_n 0, 1), (.iload_n 1, 1), (.invokevirtual 217, 3), (.astore_n 2, 1), (.iconst 1, 1), (.aload_n 2, 1), (.getfield 221, 3), (.invokestatic 268, 3), (.istore_n 3, 1), (.aload_n 2, 1), (.invokevirtual 273, 3), (.i2f, 1), (.iconst 3, 1), (.iload_n 3, 1), (.imul, 1), (.i2f, 1), (.fdiv, 1), (.freturn, 1)] := rfl
theorem uX9_averageBranches_0 : uX9_averageBranches 0 = none := rfl
theorem aX9_averageBranches_97 : aX9_averageBranches 97 = some (2, true, 0, 0, C_X9_requireIndex) := rfl
theorem aX9_averageBranches_217 : aX9_averageBranches 217 = some (2, false, 8, 0, C_X9_powerset) := rfl
theorem aX9_averageBranches_268 : aX9_averageBranches 268 = some (2, true, 0, 0, C_J9_max_7cf53) := rfl
theorem aX9_averageBranches_273 : aX9_averageBranches 273 = some (1, false, 3, 0, C_X3_countAllBranches) := rfl
set_option maxRecDepth 100000 in
set_option maxHeartbeats 4000000 in
theorem okX9_averageBranches : pvOkM fX9 aX9_averageBranches kX9 eX9 (some .float) bX9_averageBranches uX9_averageBranches 4 C_X9_averageBranches := by
  intro Q SW hc as z h hS hz
  unfold C_X9_averageBranches at h
  split at h
  · rename_i id s
    obtain ⟨rfl, hp, h1, h2⟩ := h
    refine ⟨Nat.le_of_ble_eq_true rfl, hc 20 _ _ _ fun _ _ => ?_⟩
    clear hc hS hz
    simp only [pvSt1]
    have hsh := pw_sh s
    have hlt := pw_o s
    by_cases hs : 0 ≤ s ∧ s ≤ 1
    · have h3 := h2 hs
      have hw := (hp s hs).1.1
      have hlen : (dsF (autC (z.1 (rwC s)))).length ≤ 16 := okL_len (dsF_ok hw)
      have hl0 := (dsF_0 (autC (z.1 (rwC s)))).1
      have ha := avD_n (n := baK (autC (z.1 (rwC s))) (dsF (autC (z.1 (rwC s)))).length) (k := 3 * (dsF (autC (z.1 (rwC s)))).length) (by omega)
      have hb := baK_r hw (dsF (autC (z.1 (rwC s)))).length
      simp only [C_X9_powerset, C_X9_requireIndex, C_X3_countAllBranches, C_J9_max_7cf53, hsh, pvE_iload_n1, pvLI_s, pvLd, pvE_iconst, pvE_invokestatic (h0 := eX9_97), pvC1_s, pvC2_s, pvAf_v, pvAf_x, pvPop, pvCs, pvCat, pvPush, aX9_averageBranches_97, pvE_aload_n0, pvLA_s, pvE_invokevirtual, aX9_averageBranches_217, pvSh_0, pvSh_1, pvSh_2, pvSh_3, pvSh_4, pvSh_5, pvSh_6, pvSh_7, pvSh_8, pvSh_9, pvSh_10, pvSh_11, pvSh_12, pvSh_13, pvSh_14, pvSh_15, pvSh_16, pvSh_17, pvSh_18, pvSh_19, pvSh_20, pvSh_21, pvSh_22, pvSh_23, pvSh_24, pvSh_25, pvSh_26, pvSh_27, pvSh_28, pvSh_29, pvSh_30, pvSh_31, pvSh_32, pvSh_33, pvSh_34, pvSh_35, pvSh_36, pvSh_37, pvSh_38, pvE_astore_n2, pvS1, List.length_cons, List.length_nil, pvClr_i, pvClr_r, pvClr_l, pvClr_d, pvClr_f, pvClr_n, pvE_aload_n2, pvE_getfield, pvGf_0, pvGf_1, pvGf_2, fX9_221, pvRf_0_0, pvRf_0_1, pvRf_0_2, pvRf_0_3, pvRf_0_4, pvRf_0_5, pvRf_0_6, pvRf_0_7, pvRf_0_8, pvRf_0_9, pvRf_0_10, pvRf_1_0, pvRf_3_0, pvRf_5_0, pvRf_5_1, pvRf_5_2, pvRf_9_0, pvRf_9_1, pvRf_9_2, pvRf_13_0, pvRf_13_1, pvRf_13_2, pvRf_17_0, pvRf_17_2, pvRf_20_0, pvRf_20_1, pvRf_20_2, pvRf_24_0, pvRf_24_1, pvRf_24_2, pvRf_28_0, pvRf_28_1, pvRf_28_2, pvRf_28_3, pvRf_33_0, pvRf_33_1, pvRf_36_0, pvRf_36_1, pvE_invokestatic (h0 := eX9_268), aX9_averageBranches_268, pvE_istore_n3, aX9_averageBranches_273, pvE_i2f, pvE_iload_n3, pvE_imul, pvE_fdiv, pvE_freturn, bX9_averageBranches_0, uX9_averageBranches_0, pvRtG, pvRecv_r, pvUp_nl, pvUp_same, pvUp_ap, pvSt_ap, pvX_c, pvX_ms, pvX_mn, pvE_nil, pvEn_i, pvEn_r, pvEn_l, pvEn_0, pvEn_s, pvRt, pvRv, pvTh, pvKc, pvGo, pvTgt, Int.toNat_natCast, false_and, and_false, true_and, and_true, if_true, if_false, reduceIte, reduceCtorEq, forall_const, false_or, or_false, true_or, or_true, ne_eq, not_true_eq_false, not_false_eq_true, implies_true, false_implies, Nat.reduceAdd, Nat.reduceSub, Nat.reduceMul, Nat.reduceEqDiff, Nat.reduceLT, Nat.reduceLeDiff, Int.reduceAdd, Int.reduceSub, Int.reduceMul, Int.reduceNeg, Int.reduceToNat, Int.reduceLE, Int.reduceLT, Int.reduceEq, Int.reduceNe, and_self]
      (repeat' first | with_reducible apply And.intro | with_reducible intro _)
      all_goals first
        | omega
        | assumption
        | (rename pyF _ _ _ => y1
           rename pvM => z1
           obtain ⟨p1, p2, -⟩ := py_P y1 hs
           have e3 := p1.1.1
           have h4 := h3 _ y1
           unfold avD at ha h4
           have eI : (if z1.1 (pwF s) 3 ≤ 1 then (1 : Int) else z1.1 (pwF s) 3) = (dsF (autC (z.1 (rwC s)))).length := by rw [e3]; split <;> omega
           rw [eI]
           exact ⟨_, ⟨p2, p1⟩, by omega, by omega, ha, h4⟩)
    · have h4 := h1 hs
      simp only [C_X9_powerset, C_X9_requireIndex, C_X3_countAllBranches, C_J9_max_7cf53, hsh, pvE_iload_n1, pvLI_s, pvLd, pvE_iconst, pvE_invokestatic (h0 := eX9_97), pvC1_s, pvC2_s, pvAf_v, pvAf_x, pvPop, pvCs, pvCat, pvPush, aX9_averageBranches_97, pvE_aload_n0, pvLA_s, pvE_invokevirtual, aX9_averageBranches_217, pvSh_0, pvSh_1, pvSh_2, pvSh_3, pvSh_4, pvSh_5, pvSh_6, pvSh_7, pvSh_8, pvSh_9, pvSh_10, pvSh_11, pvSh_12, pvSh_13, pvSh_14, pvSh_15, pvSh_16, pvSh_17, pvSh_18, pvSh_19, pvSh_20, pvSh_21, pvSh_22, pvSh_23, pvSh_24, pvSh_25, pvSh_26, pvSh_27, pvSh_28, pvSh_29, pvSh_30, pvSh_31, pvSh_32, pvSh_33, pvSh_34, pvSh_35, pvSh_36, pvSh_37, pvSh_38, pvE_astore_n2, pvS1, List.length_cons, List.length_nil, pvClr_i, pvClr_r, pvClr_l, pvClr_d, pvClr_f, pvClr_n, pvE_aload_n2, pvE_getfield, pvGf_0, pvGf_1, pvGf_2, fX9_221, pvRf_0_0, pvRf_0_1, pvRf_0_2, pvRf_0_3, pvRf_0_4, pvRf_0_5, pvRf_0_6, pvRf_0_7, pvRf_0_8, pvRf_0_9, pvRf_0_10, pvRf_1_0, pvRf_3_0, pvRf_5_0, pvRf_5_1, pvRf_5_2, pvRf_9_0, pvRf_9_1, pvRf_9_2, pvRf_13_0, pvRf_13_1, pvRf_13_2, pvRf_17_0, pvRf_17_2, pvRf_20_0, pvRf_20_1, pvRf_20_2, pvRf_24_0, pvRf_24_1, pvRf_24_2, pvRf_28_0, pvRf_28_1, pvRf_28_2, pvRf_28_3, pvRf_33_0, pvRf_33_1, pvRf_36_0, pvRf_36_1, pvE_invokestatic (h0 := eX9_268), aX9_averageBranches_268, pvE_istore_n3, aX9_averageBranches_273, pvE_i2f, pvE_iload_n3, pvE_imul, pvE_fdiv, pvE_freturn, bX9_averageBranches_0, uX9_averageBranches_0, pvRtG, pvRecv_r, pvUp_nl, pvUp_same, pvUp_ap, pvSt_ap, pvX_c, pvX_ms, pvX_mn, pvE_nil, pvEn_i, pvEn_r, pvEn_l, pvEn_0, pvEn_s, pvRt, pvRv, pvTh, pvKc, pvGo, pvTgt, Int.toNat_natCast, false_and, and_false, true_and, and_true, if_true, if_false, reduceIte, reduceCtorEq, forall_const, false_or, or_false, true_or, or_true, ne_eq, not_true_eq_false, not_false_eq_true, implies_true, false_implies, Nat.reduceAdd, Nat.reduceSub, Nat.reduceMul, Nat.reduceEqDiff, Nat.reduceLT, Nat.reduceLeDiff, Int.reduceAdd, Int.reduceSub, Int.reduceMul, Int.reduceNeg, Int.reduceToNat, Int.reduceLE, Int.reduceLT, Int.reduceEq, Int.reduceNe, and_self]
      (repeat' first | with_reducible apply And.intro | with_reducible intro _) <;> first | omega | assumption
  · exact h.elim

