/-! accepted words: what is asked of the reference -/
def C_X10_acceptedWords : pvC
  | [.inr (.inr (.inl id)), .inl s, .inl e, .inl l], z, Q => id = 39 ∧ ((∀ s' : Int, 0 ≤ s' ∧ s' ≤ 1 → WfA (autR (z.1 40) s')) ∧ smP z) ∧
      (¬ (0 ≤ s ∧ s ≤ 1) → Q (.inl (some (vL 0))) (pvUp z.1 39 8 1, z.2)) ∧
      (0 ≤ s ∧ s ≤ 1 → ¬ ((0 ≤ e ∧ e ≤ 10) ∧ 0 ≤ l ∧ l ≤ 4) → Q (.inl (some (vL 0))) (pvUp z.1 39 8 2, z.2)) ∧
      (0 ≤ s ∧ s ≤ 1 → (0 ≤ e ∧ e ≤ 10) ∧ 0 ≤ l ∧ l ≤ 4 → ∀ z' : pvM, frF [39, 48] [56, 57] z z' → (∀ j, j ≠ 28 → j ≠ 8 → z'.1 39 j = z.1 39 j) → z'.1 39 8 = 0 → Q (.inl (some (vL (wdF (autR (z.1 40) s) (l.toNat + 1) e.toNat (3440 + (autR (z.1 40) s).2.1))))) z')
  | _, _, _ => False
def bX10_acceptedWords : Nat → List (Instr × Nat)
  | 0 => [(.aload_n 0, 1), (.iload_n 1, 1), (.invokestatic 80, 3), (.ifCond .ne 7, 3), (.iconst 1, 1), (.goto 27, 3)]
  | 12 => [(.iload_n 2, 1), (.iconst 0, 1), (.bipush 10, 2), (.invokestatic 76, 3), (.ifCond .eq 16, 3), (.iload_n 3, 1), (.iconst 0, 1), (.iconst 4, 1), (.invokestatic 76, 3), (.ifCond .eq 7, 3), (.iconst 0, 1), (.goto 4, 3)]
  | 35 => [(.iconst 2, 1)]
  | 36 => [(.putfield 73, 3)]
  | 39 => [(.aload_n 0, 1), (.getfield 73, 3), (.ifCond .ne 13, 3), (.aload_n 0, 1), (.iload_n 1, 1), (.iload_n 2, 1), (.iload_n 3, 1), (.invokevirtual 261, 3), (.goto 4, 3)]
  | 56 => [(.lconst 0, 1)]
  | 57 => [(.lreturn, 1)]
  | _ => []
def uX10_acceptedWords : Nat → Option (List Bool)
  | 39 => some [true, true, true, true]
  | _ => none
def aX10_acceptedWords : pvCa
  | 76 => some (3, true, 0, 0, C_X10_in)
  | 80 => some (1, true, 0, 0, C_X10_isSlot)
  | 261 => some (4, false, 9, 0, C_X10_counts)
  | _ => none
theorem bX10_acceptedWords_0 : bX10_acceptedWords 0 = [(.aload_n 0, 1), (.iload_n 1, 1), (.invokestatic 80, 3), (.ifCond .ne 7, 3), (.iconst 1, 1), (.goto 27, 3)] := rfl
theorem uX10_acceptedWords_0 : uX10_acceptedWords 0 = none := rfl
theorem bX10_acceptedWords_12 : bX10_acceptedWords 12 = [(.iload_n 2, 1), (.iconst 0, 1), (.bipush 10, 2), (.invokestatic 76, 3), (.ifCond .eq 16, 3), (.iload_n 3, 1), (.iconst 0, 1), (.iconst 4, 1), (.invokestatic 76, 3), (.ifCond .eq 7, 3), (.iconst 0, 1), (.goto 4, 3)] := rfl
theorem uX10_acceptedWords_12 : uX10_acceptedWords 12 = none := rfl
theorem bX10_acceptedWords_35 : bX10_acceptedWords 35 = [(.iconst 2, 1)] := rfl
theorem uX10_acceptedWords_35 : uX10_acceptedWords 35 = none := rfl
theorem bX10_acceptedWords_36 : bX10_acceptedWords 36 = [(.putfield 73, 3)] := rfl
theorem uX10_acceptedWords_36 : uX10_acceptedWords 36 = none := rfl
theorem bX10_acceptedWords_39 : bX10_acceptedWords 39 = [(.aload_n 0, 1), (.getfield 73, 3), (.ifCond .ne 13, 3), (.aload_n 0, 1), (.iload_n 1, 1), (.iload_n 2, 1), (.iload_n 3, 1), (.invokevirtual 261, 3), (.goto 4, 3)] := rfl
theorem uX10_acceptedWords_39 : uX10_acceptedWords 39 = some [true, true, true, true] := rfl
theorem bX10_acceptedWords_56 : bX10_acceptedWords 56 = [(.lconst 0, 1)] := rfl
theorem uX10_acceptedWords_56 : uX10_acceptedWords 56 = none := rfl
theorem bX10_acceptedWords_57 : bX10_acceptedWords 57 = [(.lreturn, 1)] := rfl
theorem uX10_acceptedWords_57 : uX10_acceptedWords 57 = none := rfl
theorem aX10_acceptedWords_76 : aX10_acceptedWords 76 = some (3, true, 0, 0, C_X10_in) := rfl
theorem aX10_acceptedWords_80 : aX10_acceptedWords 80 = some (1, true, 0, 0, C_X10_isSlot) := rfl
theorem aX10_acceptedWords_261 : aX10_acceptedWords 261 = some (4, false, 9, 0, C_X10_counts) := rfl
def mX10_acceptedWords : Room := { frames := 4, cells := 1, slots := 6, locals := 97 }
set_option maxRecDepth 100000 in
set_option maxHeartbeats 4000000 in
theorem okX10_acceptedWords : pvOkM fX10 aX10_acceptedWords kX10 eX10 (some .long) bX10_acceptedWords uX10_acceptedWords 4 C_X10_acceptedWords := by
  intro Q SW hc as z h hS hz
  unfold C_X10_acceptedWords at h
  split at h
  · rename_i id s e l
    obtain ⟨rfl, ⟨hws, hsm⟩, h1, h2, h3⟩ := h
    refine ⟨Nat.le_of_ble_eq_true rfl, ?_⟩
    have fin : ∀ t : Int, (0 < t → Q (.inl (some (vL 0))) (pvUp z.1 39 8 t, z.2)) → 0 ≤ t → (t = 0 → (0 ≤ s ∧ s ≤ 1) ∧ (0 ≤ e ∧ e ≤ 10) ∧ 0 ≤ l ∧ l ≤ 4) → SW 39 [some (vR 39), some (vI s), some (vI e), some (vI l)] (pvUp z.1 39 8 t, z.2) := by
      intro t ht1 ht0 ht2
      refine hc 20 _ _ _ fun _ _ => ?_
      simp only [pvSt1]
      have hsm' : smP (pvUp z.1 39 8 t, z.2) := by unfold smP; simp only [pvUp_nl, pvSt_ne, pvSt_eq, ne_eq, Nat.reduceEqDiff, not_false_eq_true]; exact hsm
      have e40 : (pvUp z.1 39 8 t) 40 = z.1 40 := pvUp_ne (by decide)
      by_cases h0 : t = 0
      · subst h0
        have q9 := h3 (ht2 rfl).1 (ht2 rfl).2
        simp only [C_X10_counts, e40, pvE_aload_n0, pvLA_s, pvLd, pvE_iload_n1, pvLI_s, pvE_invokestatic (h0 := eX10_80), pvC1_s, pvC2_s, pvAf_v, pvAf_x, pvPop, pvCs, pvCat, pvPush, aX10_acceptedWords_80, pvE_if_ne, pvE_iconst, pvE_goto, pvE_iload_n2, pvE_bipush, pvE_invokestatic (h0 := eX10_76), aX10_acceptedWords_76, pvE_if_eq, pvE_iload_n3, pvE_putfield, pvPf_0, pvPf_1, fX10_73, pvSh_0, pvSh_1, pvSh_2, pvSh_3, pvSh_4, pvSh_5, pvSh_6, pvSh_7, pvSh_8, pvSh_9, pvSh_10, pvSh_11, pvSh_12, pvSh_13, pvSh_14, pvSh_15, pvSh_16, pvSh_17, pvSh_18, pvSh_19, pvSh_20, pvSh_21, pvSh_22, pvSh_23, pvSh_24, pvSh_25, pvSh_26, pvSh_27, pvSh_28, pvSh_29, pvSh_30, pvSh_31, pvSh_32, pvSh_33, pvSh_34, pvSh_35, pvSh_36, pvSh_37, pvSh_38, pvSh_39, pvSh_40, pvSh_41, pvSh_42, pvSh_43, pvSh_44, pvSh_45, pvSh_46, pvSh_47, pvSh_48, pvSh_49, pvSh_50, pvSh_51, pvSh_52, pvSh_53, pvSh_54, pvSh_55, pvSh_56, pvSh_57, pvSh_58, pvSh_59, pvE_getfield, pvGf_0, pvGf_1, pvGf_2, pvRf_0_0, pvRf_0_1, pvRf_0_2, pvRf_0_3, pvRf_0_4, pvRf_0_5, pvRf_0_6, pvRf_0_7, pvRf_0_8, pvRf_0_9, pvRf_0_10, pvRf_1_0, pvRf_3_0, pvRf_5_0, pvRf_5_1, pvRf_5_2, pvRf_9_0, pvRf_9_1, pvRf_9_2, pvRf_13_0, pvRf_13_1, pvRf_13_2, pvRf_17_0, pvRf_17_2, pvRf_20_0, pvRf_20_1, pvRf_20_2, pvRf_24_0, pvRf_24_1, pvRf_24_2, pvRf_28_0, pvRf_28_1, pvRf_28_2, pvRf_28_3, pvRf_33_0, pvRf_33_1, pvRf_36_0, pvRf_36_1, pvRf_39_0, pvRf_39_1, pvRf_39_2, pvRf_39_5, pvRf_39_6, pvRf_39_9, pvRf_39_13, pvRf_39_15, pvRf_39_16, pvRf_39_17, pvRf_39_19, pvRf_39_20, pvRf_39_22, pvRf_39_23, pvRf_39_24, pvRf_39_25, pvRf_39_29, pvRf_39_30, pvE_invokevirtual, aX10_acceptedWords_261, pvE_lconst0, pvE_lreturn, bX10_acceptedWords_0, uX10_acceptedWords_0, bX10_acceptedWords_12, uX10_acceptedWords_12, bX10_acceptedWords_35, uX10_acceptedWords_35, bX10_acceptedWords_36, uX10_acceptedWords_36, bX10_acceptedWords_39, uX10_acceptedWords_39, bX10_acceptedWords_56, uX10_acceptedWords_56, bX10_acceptedWords_57, uX10_acceptedWords_57, pvMk_t, pvMk_f, pvMk_n, pvRecv_r, pvUp_nl, pvUp_same, pvUp_ap, pvSt_ap, pvX_c, pvX_ms, pvX_mn, pvE_nil, pvEn_i, pvEn_r, pvEn_l, pvEn_0, pvEn_s, pvRt, pvRv, pvTh, pvKc, pvGo, pvTgt, Int.toNat_natCast, false_and, and_false, true_and, and_true, if_true, if_false, reduceIte, reduceCtorEq, forall_const, false_or, or_false, true_or, or_true, ne_eq, not_true_eq_false, not_false_eq_true, implies_true, false_implies, Nat.reduceAdd, Nat.reduceSub, Nat.reduceMul, Nat.reduceEqDiff, Nat.reduceLT, Nat.reduceLeDiff, Int.reduceAdd, Int.reduceSub, Int.reduceMul, Int.reduceNeg, Int.reduceToNat, Int.reduceLE, Int.reduceLT, Int.reduceEq, Int.reduceNe, and_self]
        (repeat' first | with_reducible apply And.intro | with_reducible intro _)
        all_goals first
          | omega
          | exact hws _ (by assumption)
          | exact hsm'
          | skip
        all_goals
          rename frF [39, 48] _ _ _ => f1
          rename ∀ (j : Nat), _ → _ => k1
          exact q9 _ (frF_t (frF_u frF_0 (by decide)) f1 (by decide) (by decide)) (fun j a b => by rw [k1 j a]; simp [pvUp_ap, b]) (by rw [k1 8 (by decide)]; simp [pvUp_ap])
      · have q9 := ht1 (by omega)
        simp only [C_X10_counts, e40, pvE_aload_n0, pvLA_s, pvLd, pvE_iload_n1, pvLI_s, pvE_invokestatic (h0 := eX10_80), pvC1_s, pvC2_s, pvAf_v, pvAf_x, pvPop, pvCs, pvCat, pvPush, aX10_acceptedWords_80, pvE_if_ne, pvE_iconst, pvE_goto, pvE_iload_n2, pvE_bipush, pvE_invokestatic (h0 := eX10_76), aX10_acceptedWords_76, pvE_if_eq, pvE_iload_n3, pvE_putfield, pvPf_0, pvPf_1, fX10_73, pvSh_0, pvSh_1, pvSh_2, pvSh_3, pvSh_4, pvSh_5, pvSh_6, pvSh_7, pvSh_8, pvSh_9, pvSh_10, pvSh_11, pvSh_12, pvSh_13, pvSh_14, pvSh_15, pvSh_16, pvSh_17, pvSh_18, pvSh_19, pvSh_20, pvSh_21, pvSh_22, pvSh_23, pvSh_24, pvSh_25, pvSh_26, pvSh_27, pvSh_28, pvSh_29, pvSh_30, pvSh_31, pvSh_32, pvSh_33, pvSh_34, pvSh_35, pvSh_36, pvSh_37, pvSh_38, pvSh_39, pvSh_40, pvSh_41, pvSh_42, pvSh_43, pvSh_44, pvSh_45, pvSh_46, pvSh_47, pvSh_48, pvSh_49, pvSh_50, pvSh_51, pvSh_52, pvSh_53, pvSh_54, pvSh_55, pvSh_56, pvSh_57, pvSh_58, pvSh_59, pvE_getfield, pvGf_0, pvGf_1, pvGf_2, pvRf_0_0, pvRf_0_1, pvRf_0_2, pvRf_0_3, pvRf_0_4, pvRf_0_5, pvRf_0_6, pvRf_0_7, pvRf_0_8, pvRf_0_9, pvRf_0_10, pvRf_1_0, pvRf_3_0, pvRf_5_0, pvRf_5_1, pvRf_5_2, pvRf_9_0, pvRf_9_1, pvRf_9_2, pvRf_13_0, pvRf_13_1, pvRf_13_2, pvRf_17_0, pvRf_17_2, pvRf_20_0, pvRf_20_1, pvRf_20_2, pvRf_24_0, pvRf_24_1, pvRf_24_2, pvRf_28_0, pvRf_28_1, pvRf_28_2, pvRf_28_3, pvRf_33_0, pvRf_33_1, pvRf_36_0, pvRf_36_1, pvRf_39_0, pvRf_39_1, pvRf_39_2, pvRf_39_5, pvRf_39_6, pvRf_39_9, pvRf_39_13, pvRf_39_15, pvRf_39_16, pvRf_39_17, pvRf_39_19, pvRf_39_20, pvRf_39_22, pvRf_39_23, pvRf_39_24, pvRf_39_25, pvRf_39_29, pvRf_39_30, pvE_invokevirtual, aX10_acceptedWords_261, pvE_lconst0, pvE_lreturn, bX10_acceptedWords_0, uX10_acceptedWords_0, bX10_acceptedWords_12, uX10_acceptedWords_12, bX10_acceptedWords_35, uX10_acceptedWords_35, bX10_acceptedWords_36, uX10_acceptedWords_36, bX10_acceptedWords_39, uX10_acceptedWords_39, bX10_acceptedWords_56, uX10_acceptedWords_56, bX10_acceptedWords_57, uX10_acceptedWords_57, pvMk_t, pvMk_f, pvMk_n, pvRecv_r, pvUp_nl, pvUp_same, pvUp_ap, pvSt_ap, pvX_c, pvX_ms, pvX_mn, pvE_nil, pvEn_i, pvEn_r, pvEn_l, pvEn_0, pvEn_s, pvRt, pvRv, pvTh, pvKc, pvGo, pvTgt, Int.toNat_natCast, false_and, and_false, true_and, and_true, if_true, if_false, reduceIte, reduceCtorEq, forall_const, false_or, or_false, true_or, or_true, ne_eq, not_true_eq_false, not_false_eq_true, implies_true, false_implies, Nat.reduceAdd, Nat.reduceSub, Nat.reduceMul, Nat.reduceEqDiff, Nat.reduceLT, Nat.reduceLeDiff, Int.reduceAdd, Int.reduceSub, Int.reduceMul, Int.reduceNeg, Int.reduceToNat, Int.reduceLE, Int.reduceLT, Int.reduceEq, Int.reduceNe, and_self]
        (repeat' first | with_reducible apply And.intro | with_reducible intro _)
        all_goals first
          | omega
          | exact q9
          | contradiction
    refine hc 20 _ _ _ fun _ _ => ?_
    simp only [pvSt1]
    simp only [C_X10_isSlot, C_X10_in, pvE_aload_n0, pvLA_s, pvLd, pvE_iload_n1, pvLI_s, pvE_invokestatic (h0 := eX10_80), pvC1_s, pvC2_s, pvAf_v, pvAf_x, pvPop, pvCs, pvCat, pvPush, aX10_acceptedWords_80, pvE_if_ne, pvE_iconst, pvE_goto, pvE_iload_n2, pvE_bipush, pvE_invokestatic (h0 := eX10_76), aX10_acceptedWords_76, pvE_if_eq, pvE_iload_n3, pvE_putfield, pvPf_0, pvPf_1, fX10_73, pvSh_0, pvSh_1, pvSh_2, pvSh_3, pvSh_4, pvSh_5, pvSh_6, pvSh_7, pvSh_8, pvSh_9, pvSh_10, pvSh_11, pvSh_12, pvSh_13, pvSh_14, pvSh_15, pvSh_16, pvSh_17, pvSh_18, pvSh_19, pvSh_20, pvSh_21, pvSh_22, pvSh_23, pvSh_24, pvSh_25, pvSh_26, pvSh_27, pvSh_28, pvSh_29, pvSh_30, pvSh_31, pvSh_32, pvSh_33, pvSh_34, pvSh_35, pvSh_36, pvSh_37, pvSh_38, pvSh_39, pvSh_40, pvSh_41, pvSh_42, pvSh_43, pvSh_44, pvSh_45, pvSh_46, pvSh_47, pvSh_48, pvSh_49, pvSh_50, pvSh_51, pvSh_52, pvSh_53, pvSh_54, pvSh_55, pvSh_56, pvSh_57, pvSh_58, pvSh_59, pvE_getfield, pvGf_0, pvGf_1, pvGf_2, pvRf_0_0, pvRf_0_1, pvRf_0_2, pvRf_0_3, pvRf_0_4, pvRf_0_5, pvRf_0_6, pvRf_0_7, pvRf_0_8, pvRf_0_9, pvRf_0_10, pvRf_1_0, pvRf_3_0, pvRf_5_0, pvRf_5_1, pvRf_5_2, pvRf_9_0, pvRf_9_1, pvRf_9_2, pvRf_13_0, pvRf_13_1, pvRf_13_2, pvRf_17_0, pvRf_17_2, pvRf_20_0, pvRf_20_1, pvRf_20_2, pvRf_24_0, pvRf_24_1, pvRf_24_2, pvRf_28_0, pvRf_28_1, pvRf_28_2, pvRf_28_3, pvRf_33_0, pvRf_33_1, pvRf_36_0, pvRf_36_1, pvRf_39_0, pvRf_39_1, pvRf_39_2, pvRf_39_5, pvRf_39_6, pvRf_39_9, pvRf_39_13, pvRf_39_15, pvRf_39_16, pvRf_39_17, pvRf_39_19, pvRf_39_20, pvRf_39_22, pvRf_39_23, pvRf_39_24, pvRf_39_25, pvRf_39_29, pvRf_39_30, pvE_invokevirtual, aX10_acceptedWords_261, pvE_lconst0, pvE_lreturn, bX10_acceptedWords_0, uX10_acceptedWords_0, bX10_acceptedWords_12, uX10_acceptedWords_12, bX10_acceptedWords_35, uX10_acceptedWords_35, bX10_acceptedWords_36, uX10_acceptedWords_36, bX10_acceptedWords_39, uX10_acceptedWords_39, bX10_acceptedWords_56, uX10_acceptedWords_56, bX10_acceptedWords_57, uX10_acceptedWords_57, pvMk_t, pvMk_f, pvMk_n, pvRecv_r, pvUp_nl, pvUp_same, pvUp_ap, pvSt_ap, pvX_c, pvX_ms, pvX_mn, pvE_nil, pvEn_i, pvEn_r, pvEn_l, pvEn_0, pvEn_s, pvRt, pvRv, pvTh, pvKc, pvGo, pvTgt, Int.toNat_natCast, false_and, and_false, true_and, and_true, if_true, if_false, reduceIte, reduceCtorEq, forall_const, false_or, or_false, true_or, or_true, ne_eq, not_true_eq_false, not_false_eq_true, implies_true, false_implies, Nat.reduceAdd, Nat.reduceSub, Nat.reduceMul, Nat.reduceEqDiff, Nat.reduceLT, Nat.reduceLeDiff, Int.reduceAdd, Int.reduceSub, Int.reduceMul, Int.reduceNeg, Int.reduceToNat, Int.reduceLE, Int.reduceLT, Int.reduceEq, Int.reduceNe, and_self]
    (repeat' first | with_reducible apply And.intro | with_reducible intro _)
    all_goals first
      | omega
      | exact fin 0 (fun h => absurd h (by decide)) (by decide) (fun _ => ⟨by omega, by omega⟩)
      | exact fin 1 (fun _ => h1 (by omega)) (by decide) (fun h => absurd h (by decide))
      | exact fin 2 (fun _ => h2 (by omega) (by omega)) (by decide) (fun h => absurd h (by decide))
  · exact h.elim
