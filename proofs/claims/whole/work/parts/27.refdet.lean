/-! the reference: stuckAt, blockingConstraint, determinism -/
def C_X10_stuckAt : pvC
  | [.inr (.inr (.inl id)), .inl s], z, Q => id = 39 ∧ ((0 ≤ s ∧ s ≤ 1 → WfA (autR (z.1 40) s)) ∧ WdF (z.1 39 7) (z.1 43) (z.1 44)) ∧
      (¬ (0 ≤ s ∧ s ≤ 1) → Q (.inl (some (vI 0))) (pvUp z.1 39 8 1, z.2)) ∧
      (0 ≤ s ∧ s ≤ 1 → 0 ≤ stK (autR (z.1 40) s) (z.1 43) (z.1 44) (z.1 39 7).toNat 0 → Q (.inl (some (vI (stK (autR (z.1 40) s) (z.1 43) (z.1 44) (z.1 39 7).toNat 0)))) (pvUp z.1 39 8 0, z.2)) ∧
      (0 ≤ s ∧ s ≤ 1 → stK (autR (z.1 40) s) (z.1 43) (z.1 44) (z.1 39 7).toNat 0 = -1 → Q (.inl (some (vI 0))) (pvUp z.1 39 8 2, z.2))
  | _, _, _ => False
theorem stK_ge (A : Aut) (d l : Nat → Int) (m k : Nat) : -1 ≤ stK A d l m k := by
  induction m generalizing k with
  | zero => exact Int.le_refl _
  | succ m ih =>
    simp only [stK]
    split
    · omega
    · exact ih _
def bX10_stuckAt : Nat → List (Instr × Nat)
  | 0 => [(.aload_n 0, 1), (.iconst 0, 1), (.putfield 73, 3), (.iload_n 1, 1), (.invokestatic 80, 3), (.ifCond .ne 9, 3), (.aload_n 0, 1), (.iconst 1, 1), (.invokevirtual 87, 3), (.ireturn, 1)]
  | 18 => [(.iconst 0, 1), (.istore_n 2, 1)]
  | 20 => [(.iload_n 2, 1), (.aload_n 0, 1), (.getfield 158, 3), (.if_icmp .ge 22, 3), (.aload_n 0, 1), (.iload_n 1, 1), (.iload_n 2, 1), (.iconst 1, 1), (.iadd, 1), (.invokevirtual 184, 3), (.ifCond .ne 5, 3), (.iload_n 2, 1), (.ireturn, 1)]
  | 41 => [(.iinc 2 1, 3), (.goto (-24), 3)]
  | 47 => [(.aload_n 0, 1), (.iconst 2, 1), (.invokevirtual 87, 3), (.ireturn, 1)]
  | _ => []
def uX10_stuckAt : Nat → Option (List Bool)
  | 20 => some [true, true, true]
  | _ => none
def aX10_stuckAt : pvCa
  | 80 => some (1, true, 0, 0, C_X10_isSlot)
  | 87 => some (2, false, 9, 0, C_X10_fails)
  | 184 => some (3, false, 9, 0, C_X10_after)
  | _ => none
theorem bX10_stuckAt_0 : bX10_stuckAt 0 = [(.aload_n 0, 1), (.iconst 0, 1), (.putfield 73, 3), (.iload_n 1, 1), (.invokestatic 80, 3), (.ifCond .ne 9, 3), (.aload_n 0, 1), (.iconst 1, 1), (.invokevirtual 87, 3), (.ireturn, 1)] := rfl
theorem uX10_stuckAt_0 : uX10_stuckAt 0 = none := rfl
theorem bX10_stuckAt_18 : bX10_stuckAt 18 = [(.iconst 0, 1), (.istore_n 2, 1)] := rfl
theorem uX10_stuckAt_18 : uX10_stuckAt 18 = none := rfl
theorem bX10_stuckAt_20 : bX10_stuckAt 20 = [(.iload_n 2, 1), (.aload_n 0, 1), (.getfield 158, 3), (.if_icmp .ge 22, 3), (.aload_n 0, 1), (.iload_n 1, 1), (.iload_n 2, 1), (.iconst 1, 1), (.iadd, 1), (.invokevirtual 184, 3), (.ifCond .ne 5, 3), (.iload_n 2, 1), (.ireturn, 1)] := rfl
theorem uX10_stuckAt_20 : uX10_stuckAt 20 = some [true, true, true] := rfl
theorem bX10_stuckAt_41 : bX10_stuckAt 41 = [(.iinc 2 1, 3), (.goto (-24), 3)] := rfl
theorem uX10_stuckAt_41 : uX10_stuckAt 41 = none := rfl
theorem bX10_stuckAt_47 : bX10_stuckAt 47 = [(.aload_n 0, 1), (.iconst 2, 1), (.invokevirtual 87, 3), (.ireturn, 1)] := rfl
theorem uX10_stuckAt_47 : uX10_stuckAt 47 = none := rfl
theorem aX10_stuckAt_80 : aX10_stuckAt 80 = some (1, true, 0, 0, C_X10_isSlot) := rfl
theorem aX10_stuckAt_87 : aX10_stuckAt 87 = some (2, false, 9, 0, C_X10_fails) := rfl
theorem aX10_stuckAt_184 : aX10_stuckAt 184 = some (3, false, 9, 0, C_X10_after) := rfl
def mX10_stuckAt : Room := { frames := 5, cells := 1, slots := 6, locals := 123 }
set_option maxRecDepth 100000 in
set_option maxHeartbeats 4000000 in
theorem okX10_stuckAt : pvOkM fX10 aX10_stuckAt kX10 eX10 (some .int) bX10_stuckAt uX10_stuckAt 3 C_X10_stuckAt := by
  intro Q SW hc as z h hS hz
  unfold C_X10_stuckAt at h
  split at h
  · rename_i id s
    obtain ⟨rfl, ⟨hw, hd⟩, h1, h2, h3⟩ := h
    have hd1 := hd.1
    have loop : ∀ (m k : Nat), (k : Int) + m = z.1 39 7 → 0 ≤ s ∧ s ≤ 1 → stK (autR (z.1 40) s) (z.1 43) (z.1 44) (z.1 39 7).toNat 0 = stK (autR (z.1 40) s) (z.1 43) (z.1 44) m k → SW 20 [some (vR 39), some (vI s), some (vI (k : Int))] (pvUp z.1 39 8 0, z.2) := by
      intro m
      induction m using Nat.strongRecOn with
      | _ m ih =>
        intro k hk hs he
        have hw9 := hw hs
        refine hc 20 _ _ _ fun _ _ => ?_
        simp only [pvSt1]
        simp only [C_X10_after, C_X10_fails, pvE_aload_n0, pvLA_s, pvLd, pvE_iconst, pvE_putfield, pvPf_0, pvPf_1, fX10_73, pvSh_0, pvSh_1, pvSh_2, pvSh_3, pvSh_4, pvSh_5, pvSh_6, pvSh_7, pvSh_8, pvSh_9, pvSh_10, pvSh_11, pvSh_12, pvSh_13, pvSh_14, pvSh_15, pvSh_16, pvSh_17, pvSh_18, pvSh_19, pvSh_20, pvSh_21, pvSh_22, pvSh_23, pvSh_24, pvSh_25, pvSh_26, pvSh_27, pvSh_28, pvSh_29, pvSh_30, pvSh_31, pvSh_32, pvSh_33, pvSh_34, pvSh_35, pvSh_36, pvSh_37, pvSh_38, pvSh_39, pvSh_40, pvSh_41, pvSh_42, pvSh_43, pvSh_44, pvSh_45, pvSh_46, pvSh_47, pvSh_48, pvSh_49, pvSh_50, pvSh_51, pvSh_52, pvSh_53, pvSh_54, pvSh_55, pvSh_56, pvSh_57, pvSh_58, pvSh_59, pvE_iload_n1, pvLI_s, pvE_invokestatic (h0 := eX10_80), pvC1_s, pvC2_s, pvAf_v, pvAf_x, pvPop, pvCs, pvCat, pvPush, aX10_stuckAt_80, pvE_if_ne, pvE_invokevirtual, aX10_stuckAt_87, pvE_ireturn, pvE_istore_n2, pvS1, List.length_cons, List.length_nil, pvClr_i, pvClr_r, pvClr_l, pvClr_d, pvClr_f, pvClr_n, pvE_iload_n2, pvE_getfield, pvGf_0, pvGf_1, pvGf_2, fX10_158, pvRf_0_0, pvRf_0_1, pvRf_0_2, pvRf_0_3, pvRf_0_4, pvRf_0_5, pvRf_0_6, pvRf_0_7, pvRf_0_8, pvRf_0_9, pvRf_0_10, pvRf_1_0, pvRf_3_0, pvRf_5_0, pvRf_5_1, pvRf_5_2, pvRf_9_0, pvRf_9_1, pvRf_9_2, pvRf_13_0, pvRf_13_1, pvRf_13_2, pvRf_17_0, pvRf_17_2, pvRf_20_0, pvRf_20_1, pvRf_20_2, pvRf_24_0, pvRf_24_1, pvRf_24_2, pvRf_28_0, pvRf_28_1, pvRf_28_2, pvRf_28_3, pvRf_33_0, pvRf_33_1, pvRf_36_0, pvRf_36_1, pvRf_39_0, pvRf_39_1, pvRf_39_2, pvRf_39_5, pvRf_39_6, pvRf_39_9, pvRf_39_13, pvRf_39_15, pvRf_39_16, pvRf_39_17, pvRf_39_19, pvRf_39_20, pvRf_39_22, pvRf_39_23, pvRf_39_24, pvRf_39_25, pvRf_39_29, pvRf_39_30, pvE_icmp_ge, pvE_iadd, aX10_stuckAt_184, pvE_iinc, pvIc_s, pvE_goto, bX10_stuckAt_0, uX10_stuckAt_0, bX10_stuckAt_18, uX10_stuckAt_18, bX10_stuckAt_20, uX10_stuckAt_20, bX10_stuckAt_41, uX10_stuckAt_41, bX10_stuckAt_47, uX10_stuckAt_47, pvMk_t, pvMk_f, pvMk_n, pvRecv_r, pvUp_nl, pvUp_same, pvUp_ap, pvSt_ap, pvX_c, pvX_ms, pvX_mn, pvE_nil, pvEn_i, pvEn_r, pvEn_l, pvEn_0, pvEn_s, pvRt, pvRv, pvTh, pvKc, pvGo, pvTgt, Int.toNat_natCast, false_and, and_false, true_and, and_true, if_true, if_false, reduceIte, reduceCtorEq, forall_const, false_or, or_false, true_or, or_true, ne_eq, not_true_eq_false, not_false_eq_true, implies_true, false_implies, Nat.reduceAdd, Nat.reduceSub, Nat.reduceMul, Nat.reduceEqDiff, Nat.reduceLT, Nat.reduceLeDiff, Int.reduceAdd, Int.reduceSub, Int.reduceMul, Int.reduceNeg, Int.reduceToNat, Int.reduceLE, Int.reduceLT, Int.reduceEq, Int.reduceNe, and_self]
        by_cases hkn : z.1 39 7 ≤ k
        · obtain rfl : m = 0 := by omega
          have h4 := h3 hs he
          (repeat' (first | with_reducible apply And.intro | intro _))
          all_goals first
            | omega
            | assumption
        · obtain ⟨m, rfl⟩ : ∃ j, m = j + 1 := ⟨m - 1, by omega⟩
          simp only [stK] at he
          have e1 : ((k : Int) + 1).toNat = k + 1 := by omega
          rw [e1]
          by_cases h0 : afK (autR (z.1 40) s) (z.1 43) (z.1 44) (k + 1) = 0
          · rw [if_pos h0] at he
            have h4 := h2 hs (by rw [he]; omega)
            rw [he] at h4
            (repeat' (first | with_reducible apply And.intro | intro _))
            all_goals first
              | omega
              | assumption
          · rw [if_neg h0] at he
            have ihk : SW 20 [some (vR 39), some (vI s), some (vI ((k : Int) + 1))] (pvUp z.1 39 8 0, z.2) := ih m (by omega) (k + 1) (by omega) hs he
            (repeat' (first | with_reducible apply And.intro | intro _))
            all_goals first
              | omega
              | assumption
    refine ⟨Nat.le_of_ble_eq_true rfl, hc 20 _ _ _ fun _ _ => ?_⟩
    simp only [pvSt1]
    simp only [C_X10_isSlot, C_X10_fails, pvE_aload_n0, pvLA_s, pvLd, pvE_iconst, pvE_putfield, pvPf_0, pvPf_1, fX10_73, pvSh_0, pvSh_1, pvSh_2, pvSh_3, pvSh_4, pvSh_5, pvSh_6, pvSh_7, pvSh_8, pvSh_9, pvSh_10, pvSh_11, pvSh_12, pvSh_13, pvSh_14, pvSh_15, pvSh_16, pvSh_17, pvSh_18, pvSh_19, pvSh_20, pvSh_21, pvSh_22, pvSh_23, pvSh_24, pvSh_25, pvSh_26, pvSh_27, pvSh_28, pvSh_29, pvSh_30, pvSh_31, pvSh_32, pvSh_33, pvSh_34, pvSh_35, pvSh_36, pvSh_37, pvSh_38, pvSh_39, pvSh_40, pvSh_41, pvSh_42, pvSh_43, pvSh_44, pvSh_45, pvSh_46, pvSh_47, pvSh_48, pvSh_49, pvSh_50, pvSh_51, pvSh_52, pvSh_53, pvSh_54, pvSh_55, pvSh_56, pvSh_57, pvSh_58, pvSh_59, pvE_iload_n1, pvLI_s, pvE_invokestatic (h0 := eX10_80), pvC1_s, pvC2_s, pvAf_v, pvAf_x, pvPop, pvCs, pvCat, pvPush, aX10_stuckAt_80, pvE_if_ne, pvE_invokevirtual, aX10_stuckAt_87, pvE_ireturn, pvE_istore_n2, pvS1, List.length_cons, List.length_nil, pvClr_i, pvClr_r, pvClr_l, pvClr_d, pvClr_f, pvClr_n, pvE_iload_n2, pvE_getfield, pvGf_0, pvGf_1, pvGf_2, fX10_158, pvRf_0_0, pvRf_0_1, pvRf_0_2, pvRf_0_3, pvRf_0_4, pvRf_0_5, pvRf_0_6, pvRf_0_7, pvRf_0_8, pvRf_0_9, pvRf_0_10, pvRf_1_0, pvRf_3_0, pvRf_5_0, pvRf_5_1, pvRf_5_2, pvRf_9_0, pvRf_9_1, pvRf_9_2, pvRf_13_0, pvRf_13_1, pvRf_13_2, pvRf_17_0, pvRf_17_2, pvRf_20_0, pvRf_20_1, pvRf_20_2, pvRf_24_0, pvRf_24_1, pvRf_24_2, pvRf_28_0, pvRf_28_1, pvRf_28_2, pvRf_28_3, pvRf_33_0, pvRf_33_1, pvRf_36_0, pvRf_36_1, pvRf_39_0, pvRf_39_1, pvRf_39_2, pvRf_39_5, pvRf_39_6, pvRf_39_9, pvRf_39_13, pvRf_39_15, pvRf_39_16, pvRf_39_17, pvRf_39_19, pvRf_39_20, pvRf_39_22, pvRf_39_23, pvRf_39_24, pvRf_39_25, pvRf_39_29, pvRf_39_30, pvE_icmp_ge, pvE_iadd, aX10_stuckAt_184, pvE_iinc, pvIc_s, pvE_goto, bX10_stuckAt_0, uX10_stuckAt_0, bX10_stuckAt_18, uX10_stuckAt_18, bX10_stuckAt_20, uX10_stuckAt_20, bX10_stuckAt_41, uX10_stuckAt_41, bX10_stuckAt_47, uX10_stuckAt_47, pvMk_t, pvMk_f, pvMk_n, pvRecv_r, pvUp_nl, pvUp_same, pvUp_ap, pvSt_ap, pvX_c, pvX_ms, pvX_mn, pvE_nil, pvEn_i, pvEn_r, pvEn_l, pvEn_0, pvEn_s, pvRt, pvRv, pvTh, pvKc, pvGo, pvTgt, Int.toNat_natCast, false_and, and_false, true_and, and_true, if_true, if_false, reduceIte, reduceCtorEq, forall_const, false_or, or_false, true_or, or_true, ne_eq, not_true_eq_false, not_false_eq_true, implies_true, false_implies, Nat.reduceAdd, Nat.reduceSub, Nat.reduceMul, Nat.reduceEqDiff, Nat.reduceLT, Nat.reduceLeDiff, Int.reduceAdd, Int.reduceSub, Int.reduceMul, Int.reduceNeg, Int.reduceToNat, Int.reduceLE, Int.reduceLT, Int.reduceEq, Int.reduceNe, and_self]
    by_cases hs : 0 ≤ s ∧ s ≤ 1
    · have h3 := loop (z.1 39 7).toNat 0 (by omega) hs rfl
      (repeat' (first | with_reducible apply And.intro | intro _))
      all_goals first
        | omega
        | assumption
    · have h3 := h1 hs
      (repeat' (first | with_reducible apply And.intro | intro _))
      all_goals first
        | omega
        | assumption
  · exact h.elim
def C_X10_blockingConstraint : pvC
  | [.inr (.inr (.inl id)), .inl s, .inl t, .inl i], z, Q => id = 39 ∧ ((0 ≤ s ∧ s ≤ 1 → WfA (autR (z.1 40) s)) ∧ WdF (z.1 39 7) (z.1 43) (z.1 44)) ∧
      (¬ (trF (autR (z.1 40)) s t ∧ 0 ≤ i ∧ i < z.1 39 7) → Q (.inl (some (vI 0))) (pvUp z.1 39 8 1, z.2)) ∧
      (trF (autR (z.1 40)) s t ∧ 0 ≤ i ∧ i < z.1 39 7 → (autR (z.1 40) s).2.2.2 t.toNat 1 ≠ z.1 44 i.toNat → Q (.inl (some (vI 0))) (pvUp z.1 39 8 2, z.2)) ∧
      (trF (autR (z.1 40)) s t ∧ 0 ≤ i ∧ i < z.1 39 7 → (autR (z.1 40) s).2.2.2 t.toNat 1 = z.1 44 i.toNat → Q (.inl (some (vI (blF ((autR (z.1 40) s).2.2.2 t.toNat) (psF (vaF (z.1 43) (z.1 44) i.toNat) (z.1 43 i.toNat)))))) (pvUp z.1 39 8 0, z.2))
  | _, _, _ => False
def bX10_blockingConstraint : Nat → List (Instr × Nat)
  | 0 => [(.aload_n 0, 1), (.iconst 0, 1), (.putfield 73, 3), (.aload_n 0, 1), (.iload_n 1, 1), (.iload_n 2, 1), (.invokevirtual 134, 3), (.ifCond .eq 11, 3), (.aload_n 0, 1), (.iload_n 3, 1), (.invokevirtual 161, 3), (.ifCond .ne 9, 3)]
  | 22 => [(.aload_n 0, 1), (.iconst 1, 1), (.invokevirtual 87, 3), (.ireturn, 1)]
  | 28 => [(.aload_n 0, 1), (.getfield 7, 3), (.iload_n 1, 1), (.iload_n 2, 1), (.invokestatic 130, 3), (.iconst 1, 1), (.iadd, 1), (.iaload, 1), (.aload_n 0, 1), (.getfield 22, 3), (.iload_n 3, 1), (.iaload, 1), (.if_icmp .ne 17, 3), (.aload_n 0, 1), (.iload_n 1, 1), (.iload_n 2, 1), (.aload_n 0, 1), (.iload_n 3, 1), (.invokevirtual 170, 3), (.invokevirtual 154, 3), (.goto 8, 3)]
  | 63 => [(.aload_n 0, 1), (.iconst 2, 1), (.invokevirtual 87, 3)]
  | 68 => [(.ireturn, 1)]
  | _ => []
def uX10_blockingConstraint : Nat → Option (List Bool)
  | _ => none
def aX10_blockingConstraint : pvCa
  | 87 => some (2, false, 9, 0, C_X10_fails)
  | 130 => some (2, true, 0, 0, C_X10_at)
  | 134 => some (3, false, 9, 0, C_X10_isTransition)
  | 154 => some (4, false, 9, 0, C_X10_blocks)
  | 161 => some (2, false, 9, 0, C_X10_isEvent)
  | 170 => some (2, false, 9, 0, C_X10_reads)
  | _ => none
theorem bX10_blockingConstraint_0 : bX10_blockingConstraint 0 = [(.aload_n 0, 1), (.iconst 0, 1), (.putfield 73, 3), (.aload_n 0, 1), (.iload_n 1, 1), (.iload_n 2, 1), (.invokevirtual 134, 3), (.ifCond .eq 11, 3), (.aload_n 0, 1), (.iload_n 3, 1), (.invokevirtual 161, 3), (.ifCond .ne 9, 3)] := rfl
theorem uX10_blockingConstraint_0 : uX10_blockingConstraint 0 = none := rfl
theorem bX10_blockingConstraint_22 : bX10_blockingConstraint 22 = [(.aload_n 0, 1), (.iconst 1, 1), (.invokevirtual 87, 3), (.ireturn, 1)] := rfl
theorem uX10_blockingConstraint_22 : uX10_blockingConstraint 22 = none := rfl
theorem bX10_blockingConstraint_28 : bX10_blockingConstraint 28 = [(.aload_n 0, 1), (.getfield 7, 3), (.iload_n 1, 1), (.iload_n 2, 1), (.invokestatic 130, 3), (.iconst 1, 1), (.iadd, 1), (.iaload, 1), (.aload_n 0, 1), (.getfield 22, 3), (.iload_n 3, 1), (.iaload, 1), (.if_icmp .ne 17, 3), (.aload_n 0, 1), (.iload_n 1, 1), (.iload_n 2, 1), (.aload_n 0, 1), (.iload_n 3, 1), (.invokevirtual 170, 3), (.invokevirtual 154, 3), (.goto 8, 3)] := rfl
theorem uX10_blockingConstraint_28 : uX10_blockingConstraint 28 = none := rfl
theorem bX10_blockingConstraint_63 : bX10_blockingConstraint 63 = [(.aload_n 0, 1), (.iconst 2, 1), (.invokevirtual 87, 3)] := rfl
theorem uX10_blockingConstraint_63 : uX10_blockingConstraint 63 = none := rfl
theorem bX10_blockingConstraint_68 : bX10_blockingConstraint 68 = [(.ireturn, 1)] := rfl
theorem uX10_blockingConstraint_68 : uX10_blockingConstraint 68 = none := rfl
theorem aX10_blockingConstraint_87 : aX10_blockingConstraint 87 = some (2, false, 9, 0, C_X10_fails) := rfl
theorem aX10_blockingConstraint_130 : aX10_blockingConstraint 130 = some (2, true, 0, 0, C_X10_at) := rfl
theorem aX10_blockingConstraint_134 : aX10_blockingConstraint 134 = some (3, false, 9, 0, C_X10_isTransition) := rfl
theorem aX10_blockingConstraint_154 : aX10_blockingConstraint 154 = some (4, false, 9, 0, C_X10_blocks) := rfl
theorem aX10_blockingConstraint_161 : aX10_blockingConstraint 161 = some (2, false, 9, 0, C_X10_isEvent) := rfl
theorem aX10_blockingConstraint_170 : aX10_blockingConstraint 170 = some (2, false, 9, 0, C_X10_reads) := rfl
def mX10_blockingConstraint : Room := { frames := 3, cells := 1, slots := 6, locals := 65 }
set_option maxRecDepth 100000 in
set_option maxHeartbeats 4000000 in
theorem okX10_blockingConstraint : pvOkM fX10 aX10_blockingConstraint kX10 eX10 (some .int) bX10_blockingConstraint uX10_blockingConstraint 4 C_X10_blockingConstraint := by
  intro Q SW hc as z h hS hz
  unfold C_X10_blockingConstraint at h
  split at h
  · rename_i id s t i
    obtain ⟨rfl, ⟨hw, hd⟩, h1, h2, h3⟩ := h
    have hd1 := hd.1
    refine ⟨Nat.le_of_ble_eq_true rfl, hc 20 _ _ _ fun _ _ => ?_⟩
    clear hc hS
    simp only [pvSt1]
    simp only [C_X10_isTransition, C_X10_isEvent, C_X10_at, C_X10_fails, C_X10_reads, C_X10_blocks, rcF, pvE_aload_n0, pvLA_s, pvLd, pvE_iconst, pvE_putfield, pvPf_0, pvPf_1, fX10_73, pvSh_0, pvSh_1, pvSh_2, pvSh_3, pvSh_4, pvSh_5, pvSh_6, pvSh_7, pvSh_8, pvSh_9, pvSh_10, pvSh_11, pvSh_12, pvSh_13, pvSh_14, pvSh_15, pvSh_16, pvSh_17, pvSh_18, pvSh_19, pvSh_20, pvSh_21, pvSh_22, pvSh_23, pvSh_24, pvSh_25, pvSh_26, pvSh_27, pvSh_28, pvSh_29, pvSh_30, pvSh_31, pvSh_32, pvSh_33, pvSh_34, pvSh_35, pvSh_36, pvSh_37, pvSh_38, pvSh_39, pvSh_40, pvSh_41, pvSh_42, pvSh_43, pvSh_44, pvSh_45, pvSh_46, pvSh_47, pvSh_48, pvSh_49, pvSh_50, pvSh_51, pvSh_52, pvSh_53, pvSh_54, pvSh_55, pvSh_56, pvSh_57, pvSh_58, pvSh_59, pvE_iload_n1, pvLI_s, pvE_iload_n2, pvE_invokevirtual, pvC1_s, pvC2_s, pvAf_v, pvAf_x, pvPop, pvCs, pvCat, pvPush, aX10_blockingConstraint_134, pvE_if_eq, pvE_iload_n3, aX10_blockingConstraint_161, pvE_if_ne, aX10_blockingConstraint_87, pvE_ireturn, pvE_getfield, pvGf_0, pvGf_1, pvGf_2, fX10_7, pvRf_0_0, pvRf_0_1, pvRf_0_2, pvRf_0_3, pvRf_0_4, pvRf_0_5, pvRf_0_6, pvRf_0_7, pvRf_0_8, pvRf_0_9, pvRf_0_10, pvRf_1_0, pvRf_3_0, pvRf_5_0, pvRf_5_1, pvRf_5_2, pvRf_9_0, pvRf_9_1, pvRf_9_2, pvRf_13_0, pvRf_13_1, pvRf_13_2, pvRf_17_0, pvRf_17_2, pvRf_20_0, pvRf_20_1, pvRf_20_2, pvRf_24_0, pvRf_24_1, pvRf_24_2, pvRf_28_0, pvRf_28_1, pvRf_28_2, pvRf_28_3, pvRf_33_0, pvRf_33_1, pvRf_36_0, pvRf_36_1, pvRf_39_0, pvRf_39_1, pvRf_39_2, pvRf_39_5, pvRf_39_6, pvRf_39_9, pvRf_39_13, pvRf_39_15, pvRf_39_16, pvRf_39_17, pvRf_39_19, pvRf_39_20, pvRf_39_22, pvRf_39_23, pvRf_39_24, pvRf_39_25, pvRf_39_29, pvRf_39_30, pvE_invokestatic (h0 := eX10_130), aX10_blockingConstraint_130, pvE_iadd, pvE_iaload, pvAI, fX10_22, pvE_icmp_ne, aX10_blockingConstraint_170, aX10_blockingConstraint_154, pvE_goto, bX10_blockingConstraint_0, uX10_blockingConstraint_0, bX10_blockingConstraint_22, uX10_blockingConstraint_22, bX10_blockingConstraint_28, uX10_blockingConstraint_28, bX10_blockingConstraint_63, uX10_blockingConstraint_63, bX10_blockingConstraint_68, uX10_blockingConstraint_68, pvRecv_r, pvUp_nl, pvUp_same, pvUp_ap, pvSt_ap, pvX_c, pvX_ms, pvX_mn, pvE_nil, pvEn_i, pvEn_r, pvEn_l, pvEn_0, pvEn_s, pvRt, pvRv, pvTh, pvKc, pvGo, pvTgt, Int.toNat_natCast, false_and, and_false, true_and, and_true, if_true, if_false, reduceIte, reduceCtorEq, forall_const, false_or, or_false, true_or, or_true, ne_eq, not_true_eq_false, not_false_eq_true, implies_true, false_implies, Nat.reduceAdd, Nat.reduceSub, Nat.reduceMul, Nat.reduceEqDiff, Nat.reduceLT, Nat.reduceLeDiff, Int.reduceAdd, Int.reduceSub, Int.reduceMul, Int.reduceNeg, Int.reduceToNat, Int.reduceLE, Int.reduceLT, Int.reduceEq, Int.reduceNe, and_self]
    by_cases hs : 0 ≤ s ∧ s ≤ 1
    · have gn : z.1 40 (163 * s + 2).toNat = (autR (z.1 40) s).1 := rS_n hs.1 rfl
      have hw9 := hw hs
      have hn := hw9.1
      rw [gn]
      by_cases ht : (0 ≤ t ∧ t < (autR (z.1 40) s).1) ∧ 0 ≤ i ∧ i < z.1 39 7
      · have g1 : z.1 40 (163 * s + 3 + 16 * t + 1).toNat = (autR (z.1 40) s).2.2.2 t.toNat 1 := by rw [autR_T (by omega), nrT_s (by decide)]; exact rT_eq (z.1 40) hs.1 (by omega)
        have hv := vaF_r hd i.toNat (by omega)
        have hdi := (hd.2 i.toNat (by omega)).1
        have hp := psF_r (v := vaF (z.1 43) (z.1 44) i.toNat) (d := z.1 43 i.toNat) (by omega)
        have h4 := h2 ⟨⟨hs, ht.1⟩, ht.2⟩
        have h5 := h3 ⟨⟨hs, ht.1⟩, ht.2⟩
        rw [g1]
        (repeat' (first | with_reducible apply And.intro | intro _))
        all_goals first
          | omega
          | assumption
          | (apply h4; omega)
          | (apply h5; omega)
      · have h4 := h1 (fun q => ht ⟨q.1.2, q.2⟩)
        (repeat' (first | with_reducible apply And.intro | intro _))
        all_goals first
          | omega
          | assumption
    · have h4 := h1 (fun q => hs q.1.1)
      (repeat' (first | with_reducible apply And.intro | intro _))
      all_goals first
        | omega
        | assumption
  · exact h.elim
/-- two transitions that one valuation allows -/
def clF (A : Aut) (t u : Nat) : Prop := A.2.2.2 t 0 = A.2.2.2 u 0 ∧ A.2.2.2 t 1 = A.2.2.2 u 1 ∧ ∃ v : Nat, v < 216 ∧ blF (A.2.2.2 t) v < 0 ∧ blF (A.2.2.2 u) v < 0
def C_X10_clash : pvC
  | [.inr (.inr (.inl id)), .inl s, .inl t, .inl u], z, Q => id = 39 ∧ ((0 ≤ s ∧ s ≤ 1) ∧ WfA (autR (z.1 40) s) ∧ (0 ≤ t ∧ t < (autR (z.1 40) s).1) ∧ (0 ≤ u ∧ u < (autR (z.1 40) s).1)) ∧
      (clF (autR (z.1 40) s) t.toNat u.toNat → Q (.inl (some (vI 1))) z) ∧ (¬ clF (autR (z.1 40) s) t.toNat u.toNat → Q (.inl (some (vI 0))) z)
  | _, _, _ => False
def bX10_clash : Nat → List (Instr × Nat)
  | 0 => [(.aload_n 0, 1), (.getfield 7, 3), (.iload_n 1, 1), (.iload_n 2, 1), (.invokestatic 130, 3), (.iaload, 1), (.aload_n 0, 1), (.getfield 7, 3), (.iload_n 1, 1), (.iload_n 3, 1), (.invokestatic 130, 3), (.iaload, 1), (.if_icmp .ne 30, 3), (.aload_n 0, 1), (.getfield 7, 3), (.iload_n 1, 1), (.iload_n 2, 1), (.invokestatic 130, 3), (.iconst 1, 1), (.iadd, 1), (.iaload, 1), (.aload_n 0, 1), (.getfield 7, 3), (.iload_n 1, 1), (.iload_n 3, 1), (.invokestatic 130, 3), (.iconst 1, 1), (.iadd, 1), (.iaload, 1), (.if_icmp .eq 5, 3)]
  | 50 => [(.iconst 0, 1), (.ireturn, 1)]
  | 52 => [(.iconst 0, 1), (.istore 4, 2), (.iconst 0, 1), (.istore 5, 2)]
  | 58 => [(.iload 5, 2), (.sipush 216, 3), (.if_icmp .ge 43, 3), (.iload 4, 2), (.ifCond .ne 38, 3), (.aload_n 0, 1), (.iload_n 1, 1), (.iload_n 2, 1), (.iload 5, 2), (.invokevirtual 154, 3), (.ifCond .ge 18, 3), (.aload_n 0, 1), (.iload_n 1, 1), (.iload_n 3, 1), (.iload 5, 2), (.invokevirtual 154, 3), (.ifCond .ge 7, 3), (.iconst 1, 1), (.goto 4, 3)]
  | 97 => [(.iconst 0, 1)]
  | 98 => [(.istore 4, 2), (.iinc 5 1, 3), (.goto (-45), 3)]
  | 106 => [(.iload 4, 2), (.ireturn, 1)]
  | _ => []
def uX10_clash : Nat → Option (List Bool)
  | 58 => some [true, true, true, true, true, true]
  | _ => none
def aX10_clash : pvCa
  | 130 => some (2, true, 0, 0, C_X10_at)
  | 154 => some (4, false, 9, 0, C_X10_blocks)
  | _ => none
theorem bX10_clash_0 : bX10_clash 0 = [(.aload_n 0, 1), (.getfield 7, 3), (.iload_n 1, 1), (.iload_n 2, 1), (.invokestatic 130, 3), (.iaload, 1), (.aload_n 0, 1), (.getfield 7, 3), (.iload_n 1, 1), (.iload_n 3, 1), (.invokestatic 130, 3), (.iaload, 1), (.if_icmp .ne 30, 3), (.aload_n 0, 1), (.getfield 7, 3), (.iload_n 1, 1), (.iload_n 2, 1), (.invokestatic 130, 3), (.iconst 1, 1), (.iadd, 1), (.iaload, 1), (.aload_n 0, 1), (.getfield 7, 3), (.iload_n 1, 1), (.iload_n 3, 1), (.invokestatic 130, 3), (.iconst 1, 1), (.iadd, 1), (.iaload, 1), (.if_icmp .eq 5, 3)] := rfl
theorem uX10_clash_0 : uX10_clash 0 = none := rfl
theorem bX10_clash_50 : bX10_clash 50 = [(.iconst 0, 1), (.ireturn, 1)] := rfl
theorem uX10_clash_50 : uX10_clash 50 = none := rfl
theorem bX10_clash_52 : bX10_clash 52 = [(.iconst 0, 1), (.istore 4, 2), (.iconst 0, 1), (.istore 5, 2)] := rfl
theorem uX10_clash_52 : uX10_clash 52 = none := rfl
theorem bX10_clash_58 : bX10_clash 58 = [(.iload 5, 2), (.sipush 216, 3), (.if_icmp .ge 43, 3), (.iload 4, 2), (.ifCond .ne 38, 3), (.aload_n 0, 1), (.iload_n 1, 1), (.iload_n 2, 1), (.iload 5, 2), (.invokevirtual 154, 3), (.ifCond .ge 18, 3), (.aload_n 0, 1), (.iload_n 1, 1), (.iload_n 3, 1), (.iload 5, 2), (.invokevirtual 154, 3), (.ifCond .ge 7, 3), (.iconst 1, 1), (.goto 4, 3)] := rfl
theorem uX10_clash_58 : uX10_clash 58 = some [true, true, true, true, true, true] := rfl
theorem bX10_clash_97 : bX10_clash 97 = [(.iconst 0, 1)] := rfl
theorem uX10_clash_97 : uX10_clash 97 = none := rfl
theorem bX10_clash_98 : bX10_clash 98 = [(.istore 4, 2), (.iinc 5 1, 3), (.goto (-45), 3)] := rfl
theorem uX10_clash_98 : uX10_clash 98 = none := rfl
theorem bX10_clash_106 : bX10_clash 106 = [(.iload 4, 2), (.ireturn, 1)] := rfl
theorem uX10_clash_106 : uX10_clash 106 = none := rfl
theorem aX10_clash_130 : aX10_clash 130 = some (2, true, 0, 0, C_X10_at) := rfl
theorem aX10_clash_154 : aX10_clash 154 = some (4, false, 9, 0, C_X10_blocks) := rfl
def mX10_clash : Room := { frames := 2, cells := 1, slots := 6, locals := 47 }
set_option maxRecDepth 100000 in
set_option maxHeartbeats 4000000 in
theorem okX10_clash : pvOkM fX10 aX10_clash kX10 eX10 (some .boolean) bX10_clash uX10_clash 6 C_X10_clash := by
  intro Q SW hc as z h hS hz
  unfold C_X10_clash at h
  split at h
  · rename_i id s t u
    obtain ⟨rfl, ⟨hs, hw, ht, hu⟩, h1, h2⟩ := h
    have hn := hw.1
    have t0 : z.1 40 (163 * s + 3 + 16 * t).toNat = (autR (z.1 40) s).2.2.2 t.toNat 0 := by rw [autR_T (by omega), nrT_s (by decide)]; exact rT_eq (z.1 40) hs.1 (by omega)
    have t1 : z.1 40 (163 * s + 3 + 16 * t + 1).toNat = (autR (z.1 40) s).2.2.2 t.toNat 1 := by rw [autR_T (by omega), nrT_s (by decide)]; exact rT_eq (z.1 40) hs.1 (by omega)
    have u0 : z.1 40 (163 * s + 3 + 16 * u).toNat = (autR (z.1 40) s).2.2.2 u.toNat 0 := by rw [autR_T (by omega), nrT_s (by decide)]; exact rT_eq (z.1 40) hs.1 (by omega)
    have u1 : z.1 40 (163 * s + 3 + 16 * u + 1).toNat = (autR (z.1 40) s).2.2.2 u.toNat 1 := by rw [autR_T (by omega), nrT_s (by decide)]; exact rT_eq (z.1 40) hs.1 (by omega)
    have loop : ∀ (m k : Nat) (b : Int), k + m = 216 → (b = 0 ∨ b = 1) → (autR (z.1 40) s).2.2.2 t.toNat 0 = (autR (z.1 40) s).2.2.2 u.toNat 0 → (autR (z.1 40) s).2.2.2 t.toNat 1 = (autR (z.1 40) s).2.2.2 u.toNat 1 →
        (b = 1 ↔ ∃ v : Nat, v < k ∧ blF ((autR (z.1 40) s).2.2.2 t.toNat) v < 0 ∧ blF ((autR (z.1 40) s).2.2.2 u.toNat) v < 0) → SW 58 [some (vR 39), some (vI s), some (vI t), some (vI u), some (vI b), some (vI (k : Int))] z := by
      intro m
      induction m using Nat.strongRecOn with
      | _ m ih =>
        intro k b hk hb he0 he1 hex
        refine hc 20 _ _ _ fun _ _ => ?_
        simp only [pvSt1]
        simp only [C_X10_blocks, pvE_aload_n0, pvLA_s, pvLd, pvE_getfield, pvGf_0, pvGf_1, pvGf_2, fX10_7, pvSh_0, pvSh_1, pvSh_2, pvSh_3, pvSh_4, pvSh_5, pvSh_6, pvSh_7, pvSh_8, pvSh_9, pvSh_10, pvSh_11, pvSh_12, pvSh_13, pvSh_14, pvSh_15, pvSh_16, pvSh_17, pvSh_18, pvSh_19, pvSh_20, pvSh_21, pvSh_22, pvSh_23, pvSh_24, pvSh_25, pvSh_26, pvSh_27, pvSh_28, pvSh_29, pvSh_30, pvSh_31, pvSh_32, pvSh_33, pvSh_34, pvSh_35, pvSh_36, pvSh_37, pvSh_38, pvSh_39, pvSh_40, pvSh_41, pvSh_42, pvSh_43, pvSh_44, pvSh_45, pvSh_46, pvSh_47, pvSh_48, pvSh_49, pvSh_50, pvSh_51, pvSh_52, pvSh_53, pvSh_54, pvSh_55, pvSh_56, pvSh_57, pvSh_58, pvSh_59, pvRf_0_0, pvRf_0_1, pvRf_0_2, pvRf_0_3, pvRf_0_4, pvRf_0_5, pvRf_0_6, pvRf_0_7, pvRf_0_8, pvRf_0_9, pvRf_0_10, pvRf_1_0, pvRf_3_0, pvRf_5_0, pvRf_5_1, pvRf_5_2, pvRf_9_0, pvRf_9_1, pvRf_9_2, pvRf_13_0, pvRf_13_1, pvRf_13_2, pvRf_17_0, pvRf_17_2, pvRf_20_0, pvRf_20_1, pvRf_20_2, pvRf_24_0, pvRf_24_1, pvRf_24_2, pvRf_28_0, pvRf_28_1, pvRf_28_2, pvRf_28_3, pvRf_33_0, pvRf_33_1, pvRf_36_0, pvRf_36_1, pvRf_39_0, pvRf_39_1, pvRf_39_2, pvRf_39_5, pvRf_39_6, pvRf_39_9, pvRf_39_13, pvRf_39_15, pvRf_39_16, pvRf_39_17, pvRf_39_19, pvRf_39_20, pvRf_39_22, pvRf_39_23, pvRf_39_24, pvRf_39_25, pvRf_39_29, pvRf_39_30, pvE_iload_n1, pvLI_s, pvE_iload_n2, pvE_invokestatic (h0 := eX10_130), pvC1_s, pvC2_s, pvAf_v, pvAf_x, pvPop, pvCs, pvCat, pvPush, aX10_clash_130, pvE_iaload, pvAI, pvE_iload_n3, pvE_icmp_ne, pvE_iconst, pvE_iadd, pvE_icmp_eq, pvE_ireturn, pvE_istore, pvS1, List.length_cons, List.length_nil, pvClr_i, pvClr_r, pvClr_l, pvClr_d, pvClr_f, pvClr_n, pvE_iload, pvE_sipush, pvE_icmp_ge, pvE_if_ne, pvE_invokevirtual, aX10_clash_154, pvE_if_ge, pvE_goto, pvE_iinc, pvIc_s, bX10_clash_0, uX10_clash_0, bX10_clash_50, uX10_clash_50, bX10_clash_52, uX10_clash_52, bX10_clash_58, uX10_clash_58, bX10_clash_97, uX10_clash_97, bX10_clash_98, uX10_clash_98, bX10_clash_106, uX10_clash_106, pvMk_t, pvMk_f, pvMk_n, pvRecv_r, pvUp_nl, pvUp_same, pvUp_ap, pvSt_ap, pvX_c, pvX_ms, pvX_mn, pvE_nil, pvEn_i, pvEn_r, pvEn_l, pvEn_0, pvEn_s, pvRt, pvRv, pvTh, pvKc, pvGo, pvTgt, Int.toNat_natCast, false_and, and_false, true_and, and_true, if_true, if_false, reduceIte, reduceCtorEq, forall_const, false_or, or_false, true_or, or_true, ne_eq, not_true_eq_false, not_false_eq_true, implies_true, false_implies, Nat.reduceAdd, Nat.reduceSub, Nat.reduceMul, Nat.reduceEqDiff, Nat.reduceLT, Nat.reduceLeDiff, Int.reduceAdd, Int.reduceSub, Int.reduceMul, Int.reduceNeg, Int.reduceToNat, Int.reduceLE, Int.reduceLT, Int.reduceEq, Int.reduceNe, and_self]
        by_cases hkn : 216 ≤ k
        · obtain rfl : k = 216 := by omega
          rcases hb with rfl | rfl
          · have h3 := h2 (fun q => by have := hex.mpr q.2.2; omega)
            (repeat' (first | with_reducible apply And.intro | intro _))
            all_goals first
              | omega
              | assumption
          · have h3 := h1 ⟨he0, he1, hex.mp rfl⟩
            (repeat' (first | with_reducible apply And.intro | intro _))
            all_goals first
              | omega
              | assumption
        · rcases hb with rfl | rfl
          · have hno : ¬ ∃ v : Nat, v < k ∧ blF ((autR (z.1 40) s).2.2.2 t.toNat) v < 0 ∧ blF ((autR (z.1 40) s).2.2.2 u.toNat) v < 0 := fun q => by have := hex.mpr q; omega
            have i0 : ¬ (blF ((autR (z.1 40) s).2.2.2 t.toNat) k < 0 ∧ blF ((autR (z.1 40) s).2.2.2 u.toNat) k < 0) → SW 58 [some (vR 39), some (vI s), some (vI t), some (vI u), some (vI 0), some (vI ((k : Int) + 1))] z := fun q => ih (m - 1) (by omega) (k + 1) 0 (by omega) (Or.inl rfl) he0 he1 ⟨fun e => by omega, fun ⟨v, e1, e2⟩ => by
              exfalso
              rcases Nat.lt_succ_iff_lt_or_eq.mp e1 with e | rfl
              · exact hno ⟨v, e, e2⟩
              · exact q e2⟩
            have i1 : (blF ((autR (z.1 40) s).2.2.2 t.toNat) k < 0 ∧ blF ((autR (z.1 40) s).2.2.2 u.toNat) k < 0) → SW 58 [some (vR 39), some (vI s), some (vI t), some (vI u), some (vI 1), some (vI ((k : Int) + 1))] z := fun q => ih (m - 1) (by omega) (k + 1) 1 (by omega) (Or.inr rfl) he0 he1 ⟨fun _ => ⟨k, by omega, q⟩, fun _ => rfl⟩
            (repeat' (first | with_reducible apply And.intro | intro _))
            all_goals first
              | omega
              | assumption
              | (apply i0; omega)
              | (apply i1; omega)
          · obtain ⟨v, e1, e2⟩ := hex.mp rfl
            have h3 := h1 ⟨he0, he1, v, by omega, e2⟩
            (repeat' (first | with_reducible apply And.intro | intro _))
            all_goals first
              | omega
              | assumption
    refine ⟨Nat.le_of_ble_eq_true rfl, hc 20 _ _ _ fun _ _ => ?_⟩
    simp only [pvSt1]
    simp only [C_X10_at, pvE_aload_n0, pvLA_s, pvLd, pvE_getfield, pvGf_0, pvGf_1, pvGf_2, fX10_7, pvSh_0, pvSh_1, pvSh_2, pvSh_3, pvSh_4, pvSh_5, pvSh_6, pvSh_7, pvSh_8, pvSh_9, pvSh_10, pvSh_11, pvSh_12, pvSh_13, pvSh_14, pvSh_15, pvSh_16, pvSh_17, pvSh_18, pvSh_19, pvSh_20, pvSh_21, pvSh_22, pvSh_23, pvSh_24, pvSh_25, pvSh_26, pvSh_27, pvSh_28, pvSh_29, pvSh_30, pvSh_31, pvSh_32, pvSh_33, pvSh_34, pvSh_35, pvSh_36, pvSh_37, pvSh_38, pvSh_39, pvSh_40, pvSh_41, pvSh_42, pvSh_43, pvSh_44, pvSh_45, pvSh_46, pvSh_47, pvSh_48, pvSh_49, pvSh_50, pvSh_51, pvSh_52, pvSh_53, pvSh_54, pvSh_55, pvSh_56, pvSh_57, pvSh_58, pvSh_59, pvRf_0_0, pvRf_0_1, pvRf_0_2, pvRf_0_3, pvRf_0_4, pvRf_0_5, pvRf_0_6, pvRf_0_7, pvRf_0_8, pvRf_0_9, pvRf_0_10, pvRf_1_0, pvRf_3_0, pvRf_5_0, pvRf_5_1, pvRf_5_2, pvRf_9_0, pvRf_9_1, pvRf_9_2, pvRf_13_0, pvRf_13_1, pvRf_13_2, pvRf_17_0, pvRf_17_2, pvRf_20_0, pvRf_20_1, pvRf_20_2, pvRf_24_0, pvRf_24_1, pvRf_24_2, pvRf_28_0, pvRf_28_1, pvRf_28_2, pvRf_28_3, pvRf_33_0, pvRf_33_1, pvRf_36_0, pvRf_36_1, pvRf_39_0, pvRf_39_1, pvRf_39_2, pvRf_39_5, pvRf_39_6, pvRf_39_9, pvRf_39_13, pvRf_39_15, pvRf_39_16, pvRf_39_17, pvRf_39_19, pvRf_39_20, pvRf_39_22, pvRf_39_23, pvRf_39_24, pvRf_39_25, pvRf_39_29, pvRf_39_30, pvE_iload_n1, pvLI_s, pvE_iload_n2, pvE_invokestatic (h0 := eX10_130), pvC1_s, pvC2_s, pvAf_v, pvAf_x, pvPop, pvCs, pvCat, pvPush, aX10_clash_130, pvE_iaload, pvAI, pvE_iload_n3, pvE_icmp_ne, pvE_iconst, pvE_iadd, pvE_icmp_eq, pvE_ireturn, pvE_istore, pvS1, List.length_cons, List.length_nil, pvClr_i, pvClr_r, pvClr_l, pvClr_d, pvClr_f, pvClr_n, pvE_iload, pvE_sipush, pvE_icmp_ge, pvE_if_ne, pvE_invokevirtual, aX10_clash_154, pvE_if_ge, pvE_goto, pvE_iinc, pvIc_s, bX10_clash_0, uX10_clash_0, bX10_clash_50, uX10_clash_50, bX10_clash_52, uX10_clash_52, bX10_clash_58, uX10_clash_58, bX10_clash_97, uX10_clash_97, bX10_clash_98, uX10_clash_98, bX10_clash_106, uX10_clash_106, pvMk_t, pvMk_f, pvMk_n, pvRecv_r, pvUp_nl, pvUp_same, pvUp_ap, pvSt_ap, pvX_c, pvX_ms, pvX_mn, pvE_nil, pvEn_i, pvEn_r, pvEn_l, pvEn_0, pvEn_s, pvRt, pvRv, pvTh, pvKc, pvGo, pvTgt, Int.toNat_natCast, false_and, and_false, true_and, and_true, if_true, if_false, reduceIte, reduceCtorEq, forall_const, false_or, or_false, true_or, or_true, ne_eq, not_true_eq_false, not_false_eq_true, implies_true, false_implies, Nat.reduceAdd, Nat.reduceSub, Nat.reduceMul, Nat.reduceEqDiff, Nat.reduceLT, Nat.reduceLeDiff, Int.reduceAdd, Int.reduceSub, Int.reduceMul, Int.reduceNeg, Int.reduceToNat, Int.reduceLE, Int.reduceLT, Int.reduceEq, Int.reduceNe, and_self]
    rw [t0, t1, u0, u1]
    by_cases he : (autR (z.1 40) s).2.2.2 t.toNat 0 = (autR (z.1 40) s).2.2.2 u.toNat 0 ∧ (autR (z.1 40) s).2.2.2 t.toNat 1 = (autR (z.1 40) s).2.2.2 u.toNat 1
    · have h3 := loop 216 0 0 rfl (Or.inl rfl) he.1 he.2 ⟨fun e => by omega, fun ⟨v, e1, _⟩ => by omega⟩
      (repeat' (first | with_reducible apply And.intro | intro _))
      all_goals first
        | omega
        | assumption
    · have h3 := h2 (fun q => he ⟨q.1, q.2.1⟩)
      (repeat' (first | with_reducible apply And.intro | intro _))
      all_goals first
        | omega
        | assumption
  · exact h.elim
