theorem aC_c {f : Nat → Int} {t c : Nat} (ht : (t : Int) < f 0) (hc : c < 4 ∨ c < 4 + 3 * (cT f t 3).toNat) : (autC f).2.2.2 t c = cT f t c := by
  rw [autC_T ht]
  exact if_pos hc
def C_X9_statesAfter : pvC
  | [.inr (.inr (.inl id)), .inl s, .inl n], z, Q => id = 0 ∧ ((0 ≤ s ∧ s ≤ 1 → WfC (z.1 (rwC s))) ∧ WcF z.1) ∧
      ((0 ≤ s ∧ s ≤ 1) ∧ 0 ≤ n ∧ n ≤ z.1 20 4 → Q (.inl (some (vI (afK (autC (z.1 (rwC s))) (z.1 21) (z.1 22) n.toNat)))) z) ∧
      (¬ ((0 ≤ s ∧ s ≤ 1) ∧ 0 ≤ n ∧ n ≤ z.1 20 4) → Q (.inr 0) z)
  | _, _, _ => False
def bX9_statesAfter : Nat → List (Instr × Nat)
  | 0 => [(.iload_n 1, 1), (.iconst 2, 1), (.invokestatic 97, 3), (.iload_n 2, 1), (.aload_n 0, 1), (.getfield 42, 3), (.getfield 172, 3), (.iconst 1, 1), (.iadd, 1), (.invokestatic 97, 3), (.aload_n 0, 1), (.iload_n 1, 1), (.invokevirtual 104, 3), (.aload_n 0, 1), (.getfield 42, 3), (.iload_n 2, 1), (.invokevirtual 192, 3), (.ireturn, 1)]
  | _ => []
def uX9_statesAfter : Nat → Option (List Bool)
  | _ => none
def aX9_statesAfter : pvCa
  | 97 => some (2, true, 0, 0, C_X9_requireIndex)
  | 104 => some (2, false, 8, 0, C_X9_automaton)
  | 192 => some (3, false, 0, 0, C_X0_statesAfterEvents)
  | _ => none
theorem bX9_statesAfter_0 : bX9_statesAfter 0 = [(.iload_n 1, 1), (.iconst 2, 1), (.invokestatic 97, 3), (.iload_n 2, 1), (.aload_n 0, 1), (.getfield 42, 3), (.getfield 172, 3), (.iconst 1, 1), (.iadd, 1), (.invokestatic 97, 3), (.aload_n 0, 1), (.iload_n 1, 1), (.invokevirtual 104, 3), (.aload_n 0, 1), (.getfield 42, 3), (.iload_n 2, 1), (.invokevirtual 192, 3), (.ireturn, 1)] := rfl
theorem uX9_statesAfter_0 : uX9_statesAfter 0 = none := rfl
theorem aX9_statesAfter_97 : aX9_statesAfter 97 = some (2, true, 0, 0, C_X9_requireIndex) := rfl
theorem aX9_statesAfter_104 : aX9_statesAfter 104 = some (2, false, 8, 0, C_X9_automaton) := rfl
theorem aX9_statesAfter_192 : aX9_statesAfter 192 = some (3, false, 0, 0, C_X0_statesAfterEvents) := rfl
set_option maxRecDepth 100000 in
set_option maxHeartbeats 4000000 in
theorem okX9_statesAfter : pvOkM fX9 aX9_statesAfter kX9 eX9 (some .int) bX9_statesAfter uX9_statesAfter 3 C_X9_statesAfter := by
  intro Q SW hc as z h hS hz
  unfold C_X9_statesAfter at h
  split at h
  · rename_i id s n
    obtain ⟨rfl, ⟨hw, hwc⟩, h1, h2⟩ := h
    refine ⟨Nat.le_of_ble_eq_true rfl, hc 20 _ _ _ fun _ _ => ?_⟩
    clear hc hS hz
    have w4 := hwc.1.1
    simp only [pvSt1]
    simp only [C_X9_requireIndex, C_X9_automaton, C_X0_statesAfterEvents, pvE_iload_n1, pvLI_s, pvLd, pvE_iconst, pvE_invokestatic (h0 := eX9_97), pvC1_s, pvC2_s, pvAf_v, pvAf_x, pvPop, pvCs, pvCat, pvPush, aX9_statesAfter_97, pvE_iload_n2, pvE_aload_n0, pvLA_s, pvE_getfield, pvGf_0, pvGf_1, pvGf_2, fX9_42, pvSh_0, pvSh_1, pvSh_2, pvSh_3, pvSh_4, pvSh_5, pvSh_6, pvSh_7, pvSh_8, pvSh_9, pvSh_10, pvSh_11, pvSh_12, pvSh_13, pvSh_14, pvSh_15, pvSh_16, pvSh_17, pvSh_18, pvSh_19, pvSh_20, pvSh_21, pvSh_22, pvSh_23, pvSh_24, pvSh_25, pvSh_26, pvSh_27, pvSh_28, pvSh_29, pvSh_30, pvSh_31, pvSh_32, pvSh_33, pvSh_34, pvSh_35, pvSh_36, pvSh_37, pvSh_38, pvRf_0_0, pvRf_0_1, pvRf_0_2, pvRf_0_3, pvRf_0_4, pvRf_0_5, pvRf_0_6, pvRf_0_7, pvRf_0_8, pvRf_0_9, pvRf_0_10, pvRf_1_0, pvRf_3_0, pvRf_5_0, pvRf_5_1, pvRf_5_2, pvRf_9_0, pvRf_9_1, pvRf_9_2, pvRf_13_0, pvRf_13_1, pvRf_13_2, pvRf_17_0, pvRf_17_2, pvRf_20_0, pvRf_20_1, pvRf_20_2, pvRf_24_0, pvRf_24_1, pvRf_24_2, pvRf_28_0, pvRf_28_1, pvRf_28_2, pvRf_28_3, pvRf_33_0, pvRf_33_1, pvRf_36_0, pvRf_36_1, fX9_172, pvE_iadd, pvE_invokevirtual, aX9_statesAfter_104, aX9_statesAfter_192, pvE_ireturn, bX9_statesAfter_0, uX9_statesAfter_0, pvRtG, pvRecv_r, pvUp_nl, pvUp_same, pvUp_ap, pvSt_ap, pvX_c, pvX_ms, pvX_mn, pvE_nil, pvEn_i, pvEn_r, pvEn_l, pvEn_0, pvEn_s, pvRt, pvRv, pvTh, pvKc, pvGo, pvTgt, Int.toNat_natCast, false_and, and_false, true_and, and_true, if_true, if_false, reduceIte, reduceCtorEq, forall_const, false_or, or_false, true_or, or_true, ne_eq, not_true_eq_false, not_false_eq_true, implies_true, false_implies, Nat.reduceAdd, Nat.reduceSub, Nat.reduceMul, Nat.reduceEqDiff, Nat.reduceLT, Nat.reduceLeDiff, Int.reduceAdd, Int.reduceSub, Int.reduceMul, Int.reduceNeg, Int.reduceToNat, Int.reduceLE, Int.reduceLT, Int.reduceEq, Int.reduceNe, and_self]
    by_cases hs : 0 ≤ s ∧ s ≤ 1
    · have hw2 := hw hs
      by_cases hn : 0 ≤ n ∧ n ≤ z.1 20 4
      · have h3 := h1 ⟨hs, hn⟩
        rcases (show s = 0 ∨ s = 1 by omega) with rfl | rfl
        · have e : rwC 0 = 2 := rfl
          rw [e] at h3 hw2
          (repeat' first | with_reducible apply And.intro | with_reducible intro _) <;> first | omega | assumption
        · have e : rwC 1 = 4 := rfl
          rw [e] at h3 hw2
          (repeat' first | with_reducible apply And.intro | with_reducible intro _) <;> first | omega | assumption
      · have h3 := h2 (fun q => hn q.2)
        (repeat' first | with_reducible apply And.intro | with_reducible intro _) <;> first | omega | assumption
    · have h3 := h2 (fun q => hs q.1)
      (repeat' first | with_reducible apply And.intro | with_reducible intro _) <;> first | omega | assumption
  · exact h.elim
def C_X9_accepts : pvC
  | [.inr (.inr (.inl id)), .inl s], z, Q => id = 0 ∧ ((0 ≤ s ∧ s ≤ 1 → WfC (z.1 (rwC s))) ∧ WcF z.1) ∧
      (¬ (0 ≤ s ∧ s ≤ 1) → Q (.inr 0) z) ∧
      (0 ≤ s ∧ s ≤ 1 → pvAnd (afK (autC (z.1 (rwC s))) (z.1 21) (z.1 22) (z.1 20 4).toNat) (autC (z.1 (rwC s))).2.2.1 ≠ 0 → Q (.inl (some (vI 1))) z) ∧
      (0 ≤ s ∧ s ≤ 1 → pvAnd (afK (autC (z.1 (rwC s))) (z.1 21) (z.1 22) (z.1 20 4).toNat) (autC (z.1 (rwC s))).2.2.1 = 0 → Q (.inl (some (vI 0))) z)
  | _, _, _ => False
def bX9_accepts : Nat → List (Instr × Nat)
  | 0 => [(.iload_n 1, 1), (.iconst 2, 1), (.invokestatic 97, 3), (.aload_n 0, 1), (.iload_n 1, 1), (.invokevirtual 104, 3), (.astore_n 2, 1), (.aload_n 2, 1), (.aload_n 0, 1), (.getfield 42, 3), (.aload_n 0, 1), (.getfield 42, 3), (.getfield 172, 3), (.invokevirtual 192, 3), (.aload_n 2, 1), (.invokevirtual 140, 3), (.iand, 1), (.ifCond .eq 7, 3), (.iconst 1, 1), (.goto 4, 3)]
  | 38 => [(.iconst 0, 1)]
  | 39 => [(.ireturn, 1)]
  | _ => []
def uX9_accepts : Nat → Option (List Bool)
  | _ => none
def aX9_accepts : pvCa
  | 97 => some (2, true, 0, 0, C_X9_requireIndex)
  | 104 => some (2, false, 8, 0, C_X9_automaton)
  | 140 => some (1, false, 0, 0, C_X0_finalStates)
  | 192 => some (3, false, 0, 0, C_X0_statesAfterEvents)
  | _ => none
theorem bX9_accepts_0 : bX9_accepts 0 = [(.iload_n 1, 1), (.iconst 2, 1), (.invokestatic 97, 3), (.aload_n 0, 1), (.iload_n 1, 1), (.invokevirtual 104, 3), (.astore_n 2, 1), (.aload_n 2, 1), (.aload_n 0, 1), (.getfield 42, 3), (.aload_n 0, 1), (.getfield 42, 3), (.getfield 172, 3), (.invokevirtual 192, 3), (.aload_n 2, 1), (.invokevirtual 140, 3), (.iand, 1), (.ifCond .eq 7, 3), (.iconst 1, 1), (.goto 4, 3)] := rfl
theorem uX9_accepts_0 : uX9_accepts 0 = none := rfl
theorem bX9_accepts_38 : bX9_accepts 38 = [(.iconst 0, 1)] := rfl
theorem uX9_accepts_38 : uX9_accepts 38 = none := rfl
theorem bX9_accepts_39 : bX9_accepts 39 = [(.ireturn, 1)] := rfl
theorem uX9_accepts_39 : uX9_accepts 39 = none := rfl
theorem aX9_accepts_97 : aX9_accepts 97 = some (2, true, 0, 0, C_X9_requireIndex) := rfl
theorem aX9_accepts_104 : aX9_accepts 104 = some (2, false, 8, 0, C_X9_automaton) := rfl
theorem aX9_accepts_140 : aX9_accepts 140 = some (1, false, 0, 0, C_X0_finalStates) := rfl
theorem aX9_accepts_192 : aX9_accepts 192 = some (3, false, 0, 0, C_X0_statesAfterEvents) := rfl
set_option maxRecDepth 100000 in
set_option maxHeartbeats 4000000 in
theorem okX9_accepts : pvOkM fX9 aX9_accepts kX9 eX9 (some .boolean) bX9_accepts uX9_accepts 3 C_X9_accepts := by
  intro Q SW hc as z h hS hz
  unfold C_X9_accepts at h
  split at h
  · rename_i id s
    obtain ⟨rfl, ⟨hw, hwc⟩, h1, h2, h3⟩ := h
    refine ⟨Nat.le_of_ble_eq_true rfl, hc 20 _ _ _ fun _ _ => ?_⟩
    clear hc hS hz
    have w4 := hwc.1.1
    simp only [pvSt1]
    simp only [C_X9_requireIndex, C_X9_automaton, C_X0_statesAfterEvents, C_X0_finalStates, pvE_iload_n1, pvLI_s, pvLd, pvE_iconst, pvE_invokestatic (h0 := eX9_97), pvC1_s, pvC2_s, pvAf_v, pvAf_x, pvPop, pvCs, pvCat, pvPush, aX9_accepts_97, pvE_aload_n0, pvLA_s, pvE_invokevirtual, aX9_accepts_104, pvSh_0, pvSh_1, pvSh_2, pvSh_3, pvSh_4, pvSh_5, pvSh_6, pvSh_7, pvSh_8, pvSh_9, pvSh_10, pvSh_11, pvSh_12, pvSh_13, pvSh_14, pvSh_15, pvSh_16, pvSh_17, pvSh_18, pvSh_19, pvSh_20, pvSh_21, pvSh_22, pvSh_23, pvSh_24, pvSh_25, pvSh_26, pvSh_27, pvSh_28, pvSh_29, pvSh_30, pvSh_31, pvSh_32, pvSh_33, pvSh_34, pvSh_35, pvSh_36, pvSh_37, pvSh_38, pvE_astore_n2, pvS1, List.length_cons, List.length_nil, pvClr_i, pvClr_r, pvClr_l, pvClr_d, pvClr_f, pvClr_n, pvE_aload_n2, pvE_getfield, pvGf_0, pvGf_1, pvGf_2, fX9_42, pvRf_0_0, pvRf_0_1, pvRf_0_2, pvRf_0_3, pvRf_0_4, pvRf_0_5, pvRf_0_6, pvRf_0_7, pvRf_0_8, pvRf_0_9, pvRf_0_10, pvRf_1_0, pvRf_3_0, pvRf_5_0, pvRf_5_1, pvRf_5_2, pvRf_9_0, pvRf_9_1, pvRf_9_2, pvRf_13_0, pvRf_13_1, pvRf_13_2, pvRf_17_0, pvRf_17_2, pvRf_20_0, pvRf_20_1, pvRf_20_2, pvRf_24_0, pvRf_24_1, pvRf_24_2, pvRf_28_0, pvRf_28_1, pvRf_28_2, pvRf_28_3, pvRf_33_0, pvRf_33_1, pvRf_36_0, pvRf_36_1, fX9_172, aX9_accepts_192, aX9_accepts_140, pvE_iand, pvE_if_eq, pvE_goto, pvE_ireturn, bX9_accepts_0, uX9_accepts_0, bX9_accepts_38, uX9_accepts_38, bX9_accepts_39, uX9_accepts_39, pvRtG, pvRecv_r, pvUp_nl, pvUp_same, pvUp_ap, pvSt_ap, pvX_c, pvX_ms, pvX_mn, pvE_nil, pvEn_i, pvEn_r, pvEn_l, pvEn_0, pvEn_s, pvRt, pvRv, pvTh, pvKc, pvGo, pvTgt, Int.toNat_natCast, false_and, and_false, true_and, and_true, if_true, if_false, reduceIte, reduceCtorEq, forall_const, false_or, or_false, true_or, or_true, ne_eq, not_true_eq_false, not_false_eq_true, implies_true, false_implies, Nat.reduceAdd, Nat.reduceSub, Nat.reduceMul, Nat.reduceEqDiff, Nat.reduceLT, Nat.reduceLeDiff, Int.reduceAdd, Int.reduceSub, Int.reduceMul, Int.reduceNeg, Int.reduceToNat, Int.reduceLE, Int.reduceLT, Int.reduceEq, Int.reduceNe, and_self]
    by_cases hs : 0 ≤ s ∧ s ≤ 1
    · have hw2 := hw hs
      have h4 := h2 hs
      have h5 := h3 hs
      rcases (show s = 0 ∨ s = 1 by omega) with rfl | rfl
      · have e : rwC 0 = 2 := rfl
        rw [e] at h4 h5 hw2
        have e2 : (autC (z.1 2)).2.2.1 = z.1 2 2 := rfl
        rw [e2] at h4 h5
        by_cases hb : pvAnd (afK (autC (z.1 2)) (z.1 21) (z.1 22) (z.1 20 4).toNat) (z.1 2 2) = 0
        · have h6 := h5 hb
          (repeat' first | with_reducible apply And.intro | with_reducible intro _) <;> first | omega | assumption | contradiction
        · have h6 := h4 hb
          (repeat' first | with_reducible apply And.intro | with_reducible intro _) <;> first | omega | assumption | contradiction
      · have e : rwC 1 = 4 := rfl
        rw [e] at h4 h5 hw2
        have e2 : (autC (z.1 4)).2.2.1 = z.1 4 2 := rfl
        rw [e2] at h4 h5
        by_cases hb : pvAnd (afK (autC (z.1 4)) (z.1 21) (z.1 22) (z.1 20 4).toNat) (z.1 4 2) = 0
        · have h6 := h5 hb
          (repeat' first | with_reducible apply And.intro | with_reducible intro _) <;> first | omega | assumption | contradiction
        · have h6 := h4 hb
          (repeat' first | with_reducible apply And.intro | with_reducible intro _) <;> first | omega | assumption | contradiction
    · have h4 := h1 hs
      (repeat' first | with_reducible apply And.intro | with_reducible intro _) <;> first | omega | assumption
  · exact h.elim

