def C_X9_acceptedWords : pvC
  | [.inr (.inr (.inl id)), .inl s, .inl e, .inl l], z, Q => id = 0 ∧ pzF z ∧ (¬ (0 ≤ s ∧ s ≤ 1) → Q (.inr 0) z) ∧
      (0 ≤ s ∧ s ≤ 1 → ¬ ((0 ≤ e ∧ e ≤ 10) ∧ 0 ≤ l ∧ l ≤ 4) → Q (.inr 1) z) ∧
      (0 ≤ s ∧ s ≤ 1 → (0 ≤ e ∧ e ≤ 10) ∧ 0 ≤ l ∧ l ≤ 4 → ∀ z' : pvM, frF [5, 6, 7, 8, 9, 10, 11, 12] [34, 35] z z' → pzF z' → Q (.inl (some (vL (wdF (autC (z.1 (rwC s))) (l.toNat + 1) e.toNat (3440 + (autC (z.1 (rwC s))).2.1))))) z')
  | _, _, _ => False
def bX9_acceptedWords : Nat → List (Instr × Nat)
  | 0 => [(.iload_n 1, 1), (.iconst 2, 1), (.invokestatic 97, 3), (.iload_n 2, 1), (.iconst 0, 1), (.bipush 10, 2), (.invokestatic 74, 3), (.invokestatic 78, 3), (.iload_n 3, 1), (.iconst 0, 1), (.iconst 4, 1), (.invokestatic 74, 3), (.invokestatic 78, 3), (.aload_n 0, 1), (.getfield 63, 3), (.aload_n 0, 1), (.iload_n 1, 1), (.invokevirtual 217, 3), (.iload_n 2, 1), (.iload_n 3, 1), (.invokevirtual 261, 3), (.lreturn, 1)]
  | _ => []
def uX9_acceptedWords : Nat → Option (List Bool)
  | _ => none
def aX9_acceptedWords : pvCa
  | 74 => some (3, true, 0, 0, C_X9_isBetween)
  | 78 => some (1, true, 0, 0, C_X9_requireArgument)
  | 97 => some (2, true, 0, 0, C_X9_requireIndex)
  | 217 => some (2, false, 8, 0, C_X9_powerset)
  | 261 => some (4, false, 7, 0, C_X8_count)
  | _ => none
theorem bX9_acceptedWords_0 : bX9_acceptedWords 0 = [(.iload_n 1, 1), (.iconst 2, 1), (.invokestatic 97, 3), (.iload_n 2, 1), (.iconst 0, 1), (.bipush 10, 2), (.invokestatic 74, 3), (.invokestatic 78, 3), (.iload_n 3, 1), (.iconst 0, 1), (.iconst 4, 1), (.invokestatic 74, 3), (.invokestatic 78, 3), (.aload_n 0, 1), (.getfield 63, 3), (.aload_n 0, 1), (.iload_n 1, 1), (.invokevirtual 217, 3), (.iload_n 2, 1), (.iload_n 3, 1), (.invokevirtual 261, 3), (.lreturn, 1)] := rfl
theorem uX9_acceptedWords_0 : uX9_acceptedWords 0 = none := rfl
theorem aX9_acceptedWords_74 : aX9_acceptedWords 74 = some (3, true, 0, 0, C_X9_isBetween) := rfl
theorem aX9_acceptedWords_78 : aX9_acceptedWords 78 = some (1, true, 0, 0, C_X9_requireArgument) := rfl
theorem aX9_acceptedWords_97 : aX9_acceptedWords 97 = some (2, true, 0, 0, C_X9_requireIndex) := rfl
theorem aX9_acceptedWords_217 : aX9_acceptedWords 217 = some (2, false, 8, 0, C_X9_powerset) := rfl
theorem aX9_acceptedWords_261 : aX9_acceptedWords 261 = some (4, false, 7, 0, C_X8_count) := rfl
set_option maxRecDepth 100000 in
set_option maxHeartbeats 4000000 in
theorem okX9_acceptedWords : pvOkM fX9 aX9_acceptedWords kX9 eX9 (some .long) bX9_acceptedWords uX9_acceptedWords 4 C_X9_acceptedWords := by
  intro Q SW hc as z h hS hz
  unfold C_X9_acceptedWords at h
  split at h
  · rename_i id s e l
    obtain ⟨rfl, hp, h1, h2, h3⟩ := h
    refine ⟨Nat.le_of_ble_eq_true rfl, hc 20 _ _ _ fun _ _ => ?_⟩
    clear hc hS hz
    simp only [pvSt1]
    have hsh := pw_sh s
    have hlt := pw_o s
    simp only [C_X9_powerset, C_X9_requireIndex, C_X9_requireArgument, C_X9_isBetween, C_X8_count, hsh, pvE_iload_n1, pvLI_s, pvLd, pvE_iconst, pvE_invokestatic (h0 := eX9_97), pvC1_s, pvC2_s, pvAf_v, pvAf_x, pvPop, pvCs, pvCat, pvPush, aX9_acceptedWords_97, pvE_iload_n2, pvE_bipush, pvE_invokestatic (h0 := eX9_74), aX9_acceptedWords_74, pvE_invokestatic (h0 := eX9_78), aX9_acceptedWords_78, pvE_iload_n3, pvE_aload_n0, pvLA_s, pvE_getfield, pvGf_0, pvGf_1, pvGf_2, fX9_63, pvSh_0, pvSh_1, pvSh_2, pvSh_3, pvSh_4, pvSh_5, pvSh_6, pvSh_7, pvSh_8, pvSh_9, pvSh_10, pvSh_11, pvSh_12, pvSh_13, pvSh_14, pvSh_15, pvSh_16, pvSh_17, pvSh_18, pvSh_19, pvSh_20, pvSh_21, pvSh_22, pvSh_23, pvSh_24, pvSh_25, pvSh_26, pvSh_27, pvSh_28, pvSh_29, pvSh_30, pvSh_31, pvSh_32, pvSh_33, pvSh_34, pvSh_35, pvSh_36, pvSh_37, pvSh_38, pvRf_0_0, pvRf_0_1, pvRf_0_2, pvRf_0_3, pvRf_0_4, pvRf_0_5, pvRf_0_6, pvRf_0_7, pvRf_0_8, pvRf_0_9, pvRf_0_10, pvRf_1_0, pvRf_3_0, pvRf_5_0, pvRf_5_1, pvRf_5_2, pvRf_9_0, pvRf_9_1, pvRf_9_2, pvRf_13_0, pvRf_13_1, pvRf_13_2, pvRf_17_0, pvRf_17_2, pvRf_20_0, pvRf_20_1, pvRf_20_2, pvRf_24_0, pvRf_24_1, pvRf_24_2, pvRf_28_0, pvRf_28_1, pvRf_28_2, pvRf_28_3, pvRf_33_0, pvRf_33_1, pvRf_36_0, pvRf_36_1, pvE_invokevirtual, aX9_acceptedWords_217, aX9_acceptedWords_261, pvE_lreturn, bX9_acceptedWords_0, uX9_acceptedWords_0, pvRtG, pvRecv_r, pvUp_nl, pvUp_same, pvUp_ap, pvSt_ap, pvX_c, pvX_ms, pvX_mn, pvE_nil, pvEn_i, pvEn_r, pvEn_l, pvEn_0, pvEn_s, pvRt, pvRv, pvTh, pvKc, pvGo, pvTgt, Int.toNat_natCast, false_and, and_false, true_and, and_true, if_true, if_false, reduceIte, reduceCtorEq, forall_const, false_or, or_false, true_or, or_true, ne_eq, not_true_eq_false, not_false_eq_true, implies_true, false_implies, Nat.reduceAdd, Nat.reduceSub, Nat.reduceMul, Nat.reduceEqDiff, Nat.reduceLT, Nat.reduceLeDiff, Int.reduceAdd, Int.reduceSub, Int.reduceMul, Int.reduceNeg, Int.reduceToNat, Int.reduceLE, Int.reduceLT, Int.reduceEq, Int.reduceNe, and_self]
    by_cases hs : 0 ≤ s ∧ s ≤ 1
    · by_cases hel : (0 ≤ e ∧ e ≤ 10) ∧ 0 ≤ l ∧ l ≤ 4
      · have h4 := h3 hs hel
        (repeat' first | with_reducible apply And.intro | with_reducible intro _)
        all_goals first
          | omega
          | assumption
          | skip
        all_goals
          rename pyF _ _ _ => y1
          refine ⟨_, ⟨py_S y1 hs, by omega, by omega⟩, fun z' f2 => ?_⟩
          have h5 := h4 z' (frF_t (frF_t frF_0 (py_de y1).1 (by simp) (by simp)) f2 (by simp) (by simp)) (pz_m (py_de y1).2 f2 (by simp))
          and_intros <;> first | omega | assumption
      · have h4 := h2 hs hel
        (repeat' first | with_reducible apply And.intro | with_reducible intro _) <;> first | omega | assumption
    · have h4 := h1 hs
      (repeat' first | with_reducible apply And.intro | with_reducible intro _) <;> first | omega | assumption
  · exact h.elim
def C_X9_acceptedShare : pvC
  | [.inr (.inr (.inl id)), .inl s, .inl e], z, Q => id = 0 ∧ pzF z ∧ (¬ (0 ≤ s ∧ s ≤ 1) → Q (.inr 0) z) ∧
      (0 ≤ s ∧ s ≤ 1 → ¬ (0 ≤ e ∧ e ≤ 10) → Q (.inr 1) z) ∧
      (0 ≤ s ∧ s ≤ 1 → 0 ≤ e ∧ e ≤ 10 → ∀ z' : pvM, frF [5, 6, 7, 8, 9, 10, 11, 12] [34, 35] z z' → pzF z' → Q (.inl (some (vD (shD (wdF (autC (z.1 (rwC s))) 5 e.toNat (3440 + (autC (z.1 (rwC s))).2.1)) e.toNat)))) z')
  | _, _, _ => False
def bX9_acceptedShare : Nat → List (Instr × Nat)
  | 0 => [(.iload_n 1, 1), (.iconst 2, 1), (.invokestatic 97, 3), (.iload_n 2, 1), (.iconst 0, 1), (.bipush 10, 2), (.invokestatic 74, 3), (.invokestatic 78, 3), (.aload_n 0, 1), (.getfield 63, 3), (.aload_n 0, 1), (.iload_n 1, 1), (.invokevirtual 217, 3), (.iload_n 2, 1), (.iconst 4, 1), (.invokevirtual 261, 3), (.l2d, 1), (.dstore_n 3, 1), (.dload_n 3, 1), (.iload_n 2, 1), (.invokestatic 264, 3), (.l2d, 1), (.ddiv, 1), (.dreturn, 1)]
  | _ => []
def uX9_acceptedShare : Nat → Option (List Bool)
  | _ => none
def aX9_acceptedShare : pvCa
  | 74 => some (3, true, 0, 0, C_X9_isBetween)
  | 78 => some (1, true, 0, 0, C_X9_requireArgument)
  | 97 => some (2, true, 0, 0, C_X9_requireIndex)
  | 217 => some (2, false, 8, 0, C_X9_powerset)
  | 261 => some (4, false, 7, 0, C_X8_count)
  | 264 => some (1, true, 0, 0, C_X8_countAll)
  | _ => none
theorem bX9_acceptedShare_0 : bX9_acceptedShare 0 = [(.iload_n 1, 1), (.iconst 2, 1), (.invokestatic 97, 3), (.iload_n 2, 1), (.iconst 0, 1), (.bipush 10, 2), (.invokestatic 74, 3), (.invokestatic 78, 3), (.aload_n 0, 1), (.getfield 63, 3), (.aload_n 0, 1), (.iload_n 1, 1), (.invokevirtual 217, 3), (.iload_n 2, 1), (.iconst 4, 1), (.invokevirtual 261, 3), (.l2d, 1), (.dstore_n 3, 1), (.dload_n 3, 1), (.iload_n 2, 1), (.invokestatic 264, 3), (.l2d, 1), (.ddiv, 1), (.dreturn, 1)] := rfl
theorem uX9_acceptedShare_0 : uX9_acceptedShare 0 = none := rfl
theorem aX9_acceptedShare_74 : aX9_acceptedShare 74 = some (3, true, 0, 0, C_X9_isBetween) := rfl
theorem aX9_acceptedShare_78 : aX9_acceptedShare 78 = some (1, true, 0, 0, C_X9_requireArgument) := rfl
theorem aX9_acceptedShare_97 : aX9_acceptedShare 97 = some (2, true, 0, 0, C_X9_requireIndex) := rfl
theorem aX9_acceptedShare_217 : aX9_acceptedShare 217 = some (2, false, 8, 0, C_X9_powerset) := rfl
theorem aX9_acceptedShare_261 : aX9_acceptedShare 261 = some (4, false, 7, 0, C_X8_count) := rfl
theorem aX9_acceptedShare_264 : aX9_acceptedShare 264 = some (1, true, 0, 0, C_X8_countAll) := rfl
set_option maxRecDepth 100000 in
set_option maxHeartbeats 4000000 in
theorem okX9_acceptedShare : pvOkM fX9 aX9_acceptedShare kX9 eX9 (some .double) bX9_acceptedShare uX9_acceptedShare 5 C_X9_acceptedShare := by
  intro Q SW hc as z h hS hz
  unfold C_X9_acceptedShare at h
  split at h
  · rename_i id s e
    obtain ⟨rfl, hp, h1, h2, h3⟩ := h
    refine ⟨Nat.le_of_ble_eq_true rfl, hc 20 _ _ _ fun _ _ => ?_⟩
    clear hc hS hz
    simp only [pvSt1]
    have hsh := pw_sh s
    have hlt := pw_o s
    have esh : ∀ n : Int, FP.ddiv (FP.l2d (Int64.ofInt n)) (FP.l2d (Int64.ofInt (15 ^ e.toNat))) = shD n e.toNat := fun n => rfl
    simp only [C_X9_powerset, C_X9_requireIndex, C_X9_requireArgument, C_X9_isBetween, C_X8_count, C_X8_countAll, hsh, esh, pvE_iload_n1, pvLI_s, pvLd, pvE_iconst, pvE_invokestatic (h0 := eX9_97), pvC1_s, pvC2_s, pvAf_v, pvAf_x, pvPop, pvCs, pvCat, pvPush, aX9_acceptedShare_97, pvE_iload_n2, pvE_bipush, pvE_invokestatic (h0 := eX9_74), aX9_acceptedShare_74, pvE_invokestatic (h0 := eX9_78), aX9_acceptedShare_78, pvE_aload_n0, pvLA_s, pvE_getfield, pvGf_0, pvGf_1, pvGf_2, fX9_63, pvSh_0, pvSh_1, pvSh_2, pvSh_3, pvSh_4, pvSh_5, pvSh_6, pvSh_7, pvSh_8, pvSh_9, pvSh_10, pvSh_11, pvSh_12, pvSh_13, pvSh_14, pvSh_15, pvSh_16, pvSh_17, pvSh_18, pvSh_19, pvSh_20, pvSh_21, pvSh_22, pvSh_23, pvSh_24, pvSh_25, pvSh_26, pvSh_27, pvSh_28, pvSh_29, pvSh_30, pvSh_31, pvSh_32, pvSh_33, pvSh_34, pvSh_35, pvSh_36, pvSh_37, pvSh_38, pvRf_0_0, pvRf_0_1, pvRf_0_2, pvRf_0_3, pvRf_0_4, pvRf_0_5, pvRf_0_6, pvRf_0_7, pvRf_0_8, pvRf_0_9, pvRf_0_10, pvRf_1_0, pvRf_3_0, pvRf_5_0, pvRf_5_1, pvRf_5_2, pvRf_9_0, pvRf_9_1, pvRf_9_2, pvRf_13_0, pvRf_13_1, pvRf_13_2, pvRf_17_0, pvRf_17_2, pvRf_20_0, pvRf_20_1, pvRf_20_2, pvRf_24_0, pvRf_24_1, pvRf_24_2, pvRf_28_0, pvRf_28_1, pvRf_28_2, pvRf_28_3, pvRf_33_0, pvRf_33_1, pvRf_36_0, pvRf_36_1, pvE_invokevirtual, aX9_acceptedShare_217, aX9_acceptedShare_261, pvE_l2d, pvE_dstore_n3, pvS2, List.length_cons, List.length_nil, pvClr_i, pvClr_r, pvClr_l, pvClr_d, pvClr_f, pvClr_n, pvE_dload_n3, pvLD_s, pvE_invokestatic (h0 := eX9_264), aX9_acceptedShare_264, pvE_ddiv, pvE_dreturn, bX9_acceptedShare_0, uX9_acceptedShare_0, pvRtG, pvRecv_r, pvUp_nl, pvUp_same, pvUp_ap, pvSt_ap, pvX_c, pvX_ms, pvX_mn, pvE_nil, pvEn_i, pvEn_r, pvEn_l, pvEn_0, pvEn_s, pvRt, pvRv, pvTh, pvKc, pvGo, pvTgt, Int.toNat_natCast, false_and, and_false, true_and, and_true, if_true, if_false, reduceIte, reduceCtorEq, forall_const, false_or, or_false, true_or, or_true, ne_eq, not_true_eq_false, not_false_eq_true, implies_true, false_implies, Nat.reduceAdd, Nat.reduceSub, Nat.reduceMul, Nat.reduceEqDiff, Nat.reduceLT, Nat.reduceLeDiff, Int.reduceAdd, Int.reduceSub, Int.reduceMul, Int.reduceNeg, Int.reduceToNat, Int.reduceLE, Int.reduceLT, Int.reduceEq, Int.reduceNe, and_self]
    by_cases hs : 0 ≤ s ∧ s ≤ 1
    · by_cases hel : 0 ≤ e ∧ e ≤ 10
      · have h4 := h3 hs hel
        have hns : ∀ n : Int, vf_n64 (shD n e.toNat) := fun n => shD_n (by omega)
        (repeat' first | with_reducible apply And.intro | with_reducible intro _)
        all_goals first
          | omega
          | assumption
          | skip
        all_goals
          rename pyF _ _ _ => y1
          refine ⟨_, ⟨py_S y1 hs, by omega⟩, fun z' f2 => ?_⟩
          have h5 := h4 z' (frF_t (frF_t frF_0 (py_de y1).1 (by simp) (by simp)) f2 (by simp) (by simp)) (pz_m (py_de y1).2 f2 (by simp))
          and_intros <;> first | omega | exact hns _ | assumption
      · have h4 := h2 hs hel
        (repeat' first | with_reducible apply And.intro | with_reducible intro _) <;> first | omega | assumption
    · have h4 := h1 hs
      (repeat' first | with_reducible apply And.intro | with_reducible intro _) <;> first | omega | assumption
  · exact h.elim

