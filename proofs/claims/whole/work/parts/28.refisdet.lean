/-! the reference: isDeterministic -/
def dtF (A : Aut) : Prop := (A.2.1 ≠ 0 ∧ pvAnd A.2.1 (A.2.1 - 1) = 0) ∧ ∀ t u : Nat, (t : Int) < A.1 → u < t → ¬ clF A t u
def C_X10_isDeterministic : pvC
  | [.inr (.inr (.inl id)), .inl s], z, Q => id = 39 ∧ (0 ≤ s ∧ s ≤ 1 → WfA (autR (z.1 40) s)) ∧
      (¬ (0 ≤ s ∧ s ≤ 1) → Q (.inl (some (vI 0))) (pvUp z.1 39 8 1, z.2)) ∧
      (0 ≤ s ∧ s ≤ 1 → dtF (autR (z.1 40) s) → Q (.inl (some (vI 1))) (pvUp z.1 39 8 0, z.2)) ∧
      (0 ≤ s ∧ s ≤ 1 → ¬ dtF (autR (z.1 40) s) → Q (.inl (some (vI 0))) (pvUp z.1 39 8 0, z.2))
  | _, _, _ => False
def bX10_isDeterministic : Nat → List (Instr × Nat)
  | 0 => [(.aload_n 0, 1), (.iload_n 1, 1), (.invokestatic 80, 3), (.ifCond .eq 7, 3), (.iconst 0, 1), (.goto 4, 3)]
  | 12 => [(.iconst 1, 1)]
  | 13 => [(.putfield 73, 3), (.aload_n 0, 1), (.getfield 73, 3), (.ifCond .le 5, 3), (.iconst 0, 1), (.ireturn, 1)]
  | 25 => [(.aload_n 0, 1), (.getfield 7, 3), (.sipush 163, 3), (.iload_n 1, 1), (.imul, 1), (.iaload, 1), (.istore_n 2, 1), (.iload_n 2, 1), (.ifCond .eq 15, 3), (.iload_n 2, 1), (.iload_n 2, 1), (.iconst 1, 1), (.isub, 1), (.iand, 1), (.ifCond .ne 7, 3), (.iconst 1, 1), (.goto 4, 3)]
  | 52 => [(.iconst 0, 1)]
  | 53 => [(.istore_n 3, 1), (.iconst 0, 1), (.istore 4, 2)]
  | 57 => [(.iload 4, 2), (.aload_n 0, 1), (.getfield 7, 3), (.sipush 163, 3), (.iload_n 1, 1), (.imul, 1), (.iconst 2, 1), (.iadd, 1), (.iaload, 1), (.if_icmp .ge 47, 3), (.iconst 0, 1), (.istore 5, 2)]
  | 77 => [(.iload 5, 2), (.iload 4, 2), (.if_icmp .ge 31, 3), (.iload_n 3, 1), (.ifCond .eq 27, 3), (.aload_n 0, 1), (.iload_n 1, 1), (.iload 4, 2), (.iload 5, 2), (.invokevirtual 219, 3), (.ifCond .ne 7, 3), (.iconst 1, 1), (.goto 4, 3)]
  | 104 => [(.iconst 0, 1)]
  | 105 => [(.istore_n 3, 1), (.iinc 5 1, 3), (.goto (-32), 3)]
  | 112 => [(.iinc 4 1, 3), (.goto (-58), 3)]
  | 118 => [(.iload_n 3, 1), (.ireturn, 1)]
  | _ => []
def uX10_isDeterministic : Nat → Option (List Bool)
  | 57 => some [true, true, false, true, true, false]
  | 77 => some [true, true, false, true, true, true]
  | _ => none
def aX10_isDeterministic : pvCa
  | 80 => some (1, true, 0, 0, C_X10_isSlot)
  | 219 => some (4, false, 9, 0, C_X10_clash)
  | _ => none
theorem bX10_isDeterministic_0 : bX10_isDeterministic 0 = [(.aload_n 0, 1), (.iload_n 1, 1), (.invokestatic 80, 3), (.ifCond .eq 7, 3), (.iconst 0, 1), (.goto 4, 3)] := rfl
theorem uX10_isDeterministic_0 : uX10_isDeterministic 0 = none := rfl
theorem bX10_isDeterministic_12 : bX10_isDeterministic 12 = [(.iconst 1, 1)] := rfl
theorem uX10_isDeterministic_12 : uX10_isDeterministic 12 = none := rfl
theorem bX10_isDeterministic_13 : bX10_isDeterministic 13 = [(.putfield 73, 3), (.aload_n 0, 1), (.getfield 73, 3), (.ifCond .le 5, 3), (.iconst 0, 1), (.ireturn, 1)] := rfl
theorem uX10_isDeterministic_13 : uX10_isDeterministic 13 = none := rfl
theorem bX10_isDeterministic_25 : bX10_isDeterministic 25 = [(.aload_n 0, 1), (.getfield 7, 3), (.sipush 163, 3), (.iload_n 1, 1), (.imul, 1), (.iaload, 1), (.istore_n 2, 1), (.iload_n 2, 1), (.ifCond .eq 15, 3), (.iload_n 2, 1), (.iload_n 2, 1), (.iconst 1, 1), (.isub, 1), (.iand, 1), (.ifCond .ne 7, 3), (.iconst 1, 1), (.goto 4, 3)] := rfl
theorem uX10_isDeterministic_25 : uX10_isDeterministic 25 = none := rfl
theorem bX10_isDeterministic_52 : bX10_isDeterministic 52 = [(.iconst 0, 1)] := rfl
theorem uX10_isDeterministic_52 : uX10_isDeterministic 52 = none := rfl
theorem bX10_isDeterministic_53 : bX10_isDeterministic 53 = [(.istore_n 3, 1), (.iconst 0, 1), (.istore 4, 2)] := rfl
theorem uX10_isDeterministic_53 : uX10_isDeterministic 53 = none := rfl
theorem bX10_isDeterministic_57 : bX10_isDeterministic 57 = [(.iload 4, 2), (.aload_n 0, 1), (.getfield 7, 3), (.sipush 163, 3), (.iload_n 1, 1), (.imul, 1), (.iconst 2, 1), (.iadd, 1), (.iaload, 1), (.if_icmp .ge 47, 3), (.iconst 0, 1), (.istore 5, 2)] := rfl
theorem uX10_isDeterministic_57 : uX10_isDeterministic 57 = some [true, true, false, true, true, false] := rfl
theorem bX10_isDeterministic_77 : bX10_isDeterministic 77 = [(.iload 5, 2), (.iload 4, 2), (.if_icmp .ge 31, 3), (.iload_n 3, 1), (.ifCond .eq 27, 3), (.aload_n 0, 1), (.iload_n 1, 1), (.iload 4, 2), (.iload 5, 2), (.invokevirtual 219, 3), (.ifCond .ne 7, 3), (.iconst 1, 1), (.goto 4, 3)] := rfl
theorem uX10_isDeterministic_77 : uX10_isDeterministic 77 = some [true, true, false, true, true, true] := rfl
theorem bX10_isDeterministic_104 : bX10_isDeterministic 104 = [(.iconst 0, 1)] := rfl
theorem uX10_isDeterministic_104 : uX10_isDeterministic 104 = none := rfl
theorem bX10_isDeterministic_105 : bX10_isDeterministic 105 = [(.istore_n 3, 1), (.iinc 5 1, 3), (.goto (-32), 3)] := rfl
theorem uX10_isDeterministic_105 : uX10_isDeterministic 105 = none := rfl
theorem bX10_isDeterministic_112 : bX10_isDeterministic 112 = [(.iinc 4 1, 3), (.goto (-58), 3)] := rfl
theorem uX10_isDeterministic_112 : uX10_isDeterministic 112 = none := rfl
theorem bX10_isDeterministic_118 : bX10_isDeterministic 118 = [(.iload_n 3, 1), (.ireturn, 1)] := rfl
theorem uX10_isDeterministic_118 : uX10_isDeterministic 118 = none := rfl
theorem aX10_isDeterministic_80 : aX10_isDeterministic 80 = some (1, true, 0, 0, C_X10_isSlot) := rfl
theorem aX10_isDeterministic_219 : aX10_isDeterministic 219 = some (4, false, 9, 0, C_X10_clash) := rfl
def mX10_isDeterministic : Room := { frames := 3, cells := 1, slots := 6, locals := 72 }
set_option maxRecDepth 100000 in
set_option maxHeartbeats 4000000 in
theorem okX10_isDeterministic : pvOkM fX10 aX10_isDeterministic kX10 eX10 (some .boolean) bX10_isDeterministic uX10_isDeterministic 6 C_X10_isDeterministic := by
  intro Q SW hc as z h hS hz
  unfold C_X10_isDeterministic at h
  split at h
  · rename_i id s
    obtain ⟨rfl, hw, h1, h2, h3⟩ := h
    have gn : 0 ≤ s → z.1 40 (163 * s + 2).toNat = (autR (z.1 40) s).1 := fun h => rS_n h rfl
    have gi : 0 ≤ s → z.1 40 (163 * s).toNat = (autR (z.1 40) s).2.1 := fun h => rS_i h rfl
    -- the inner loop, the outer one's next turn given
    have inner : ∀ (k : Nat), 0 ≤ s ∧ s ≤ 1 → (k : Int) < (autR (z.1 40) s).1 → (∀ b : Int, (b = 0 ∨ b = 1) → (b = 1 ↔ (((autR (z.1 40) s).2.1 ≠ 0 ∧ pvAnd (autR (z.1 40) s).2.1 ((autR (z.1 40) s).2.1 - 1) = 0) ∧ ∀ t u : Nat, t < k + 1 → u < t → ¬ clF (autR (z.1 40) s) t u)) → SW 57 [some (vR 39), some (vI s), none, some (vI b), some (vI ((k : Int) + 1)), none] (pvUp z.1 39 8 0, z.2)) →
        ∀ (m j : Nat) (b : Int), j + m = k → (b = 0 ∨ b = 1) → (b = 1 ↔ (((autR (z.1 40) s).2.1 ≠ 0 ∧ pvAnd (autR (z.1 40) s).2.1 ((autR (z.1 40) s).2.1 - 1) = 0) ∧ (∀ t u : Nat, t < k → u < t → ¬ clF (autR (z.1 40) s) t u) ∧ ∀ u : Nat, u < j → ¬ clF (autR (z.1 40) s) k u)) →
        SW 77 [some (vR 39), some (vI s), none, some (vI b), some (vI (k : Int)), some (vI (j : Int))] (pvUp z.1 39 8 0, z.2) := by
      intro k hs hkn hnext m
      have hn := (hw hs).1
      have hw9 := hw hs
      induction m using Nat.strongRecOn with
      | _ m ih =>
        intro j b hj hb hinv
        refine hc 20 _ _ _ fun _ _ => ?_
        simp only [pvSt1]
        simp only [C_X10_clash, pvE_aload_n0, pvLA_s, pvLd, pvE_iload_n1, pvLI_s, pvE_invokestatic (h0 := eX10_80), pvC1_s, pvC2_s, pvAf_v, pvAf_x, pvPop, pvCs, pvCat, pvPush, aX10_isDeterministic_80, pvE_if_eq, pvE_iconst, pvE_goto, pvE_putfield, pvPf_0, pvPf_1, fX10_73, pvSh_0, pvSh_1, pvSh_2, pvSh_3, pvSh_4, pvSh_5, pvSh_6, pvSh_7, pvSh_8, pvSh_9, pvSh_10, pvSh_11, pvSh_12, pvSh_13, pvSh_14, pvSh_15, pvSh_16, pvSh_17, pvSh_18, pvSh_19, pvSh_20, pvSh_21, pvSh_22, pvSh_23, pvSh_24, pvSh_25, pvSh_26, pvSh_27, pvSh_28, pvSh_29, pvSh_30, pvSh_31, pvSh_32, pvSh_33, pvSh_34, pvSh_35, pvSh_36, pvSh_37, pvSh_38, pvSh_39, pvSh_40, pvSh_41, pvSh_42, pvSh_43, pvSh_44, pvSh_45, pvSh_46, pvSh_47, pvSh_48, pvSh_49, pvSh_50, pvSh_51, pvSh_52, pvSh_53, pvSh_54, pvSh_55, pvSh_56, pvSh_57, pvSh_58, pvSh_59, pvE_getfield, pvGf_0, pvGf_1, pvGf_2, pvRf_0_0, pvRf_0_1, pvRf_0_2, pvRf_0_3, pvRf_0_4, pvRf_0_5, pvRf_0_6, pvRf_0_7, pvRf_0_8, pvRf_0_9, pvRf_0_10, pvRf_1_0, pvRf_3_0, pvRf_5_0, pvRf_5_1, pvRf_5_2, pvRf_9_0, pvRf_9_1, pvRf_9_2, pvRf_13_0, pvRf_13_1, pvRf_13_2, pvRf_17_0, pvRf_17_2, pvRf_20_0, pvRf_20_1, pvRf_20_2, pvRf_24_0, pvRf_24_1, pvRf_24_2, pvRf_28_0, pvRf_28_1, pvRf_28_2, pvRf_28_3, pvRf_33_0, pvRf_33_1, pvRf_36_0, pvRf_36_1, pvRf_39_0, pvRf_39_1, pvRf_39_2, pvRf_39_5, pvRf_39_6, pvRf_39_9, pvRf_39_13, pvRf_39_15, pvRf_39_16, pvRf_39_17, pvRf_39_19, pvRf_39_20, pvRf_39_22, pvRf_39_23, pvRf_39_24, pvRf_39_25, pvRf_39_29, pvRf_39_30, pvE_if_le, pvE_ireturn, fX10_7, pvE_sipush, pvE_imul, pvE_iaload, pvAI, pvE_istore_n2, pvS1, List.length_cons, List.length_nil, pvClr_i, pvClr_r, pvClr_l, pvClr_d, pvClr_f, pvClr_n, pvE_iload_n2, pvE_isub, pvE_iand, pvE_if_ne, pvE_istore_n3, pvE_istore, pvE_iload, pvE_iadd, pvE_icmp_ge, pvE_iload_n3, pvE_invokevirtual, aX10_isDeterministic_219, pvE_iinc, pvIc_s, bX10_isDeterministic_0, uX10_isDeterministic_0, bX10_isDeterministic_12, uX10_isDeterministic_12, bX10_isDeterministic_13, uX10_isDeterministic_13, bX10_isDeterministic_25, uX10_isDeterministic_25, bX10_isDeterministic_52, uX10_isDeterministic_52, bX10_isDeterministic_53, uX10_isDeterministic_53, bX10_isDeterministic_57, uX10_isDeterministic_57, bX10_isDeterministic_77, uX10_isDeterministic_77, bX10_isDeterministic_104, uX10_isDeterministic_104, bX10_isDeterministic_105, uX10_isDeterministic_105, bX10_isDeterministic_112, uX10_isDeterministic_112, bX10_isDeterministic_118, uX10_isDeterministic_118, pvMk_t, pvMk_f, pvMk_n, pvRecv_r, pvUp_nl, pvUp_same, pvUp_ap, pvSt_ap, pvX_c, pvX_ms, pvX_mn, pvE_nil, pvEn_i, pvEn_r, pvEn_l, pvEn_0, pvEn_s, pvRt, pvRv, pvTh, pvKc, pvGo, pvTgt, Int.toNat_natCast, false_and, and_false, true_and, and_true, if_true, if_false, reduceIte, reduceCtorEq, forall_const, false_or, or_false, true_or, or_true, ne_eq, not_true_eq_false, not_false_eq_true, implies_true, false_implies, Nat.reduceAdd, Nat.reduceSub, Nat.reduceMul, Nat.reduceEqDiff, Nat.reduceLT, Nat.reduceLeDiff, Int.reduceAdd, Int.reduceSub, Int.reduceMul, Int.reduceNeg, Int.reduceToNat, Int.reduceLE, Int.reduceLT, Int.reduceEq, Int.reduceNe, and_self]
        by_cases hex : k ≤ j ∨ b = 0
        · have ex : SW 57 [some (vR 39), some (vI s), none, some (vI b), some (vI ((k : Int) + 1)), none] (pvUp z.1 39 8 0, z.2) := hnext b hb (by
            rw [hinv]
            constructor
            · rintro ⟨q1, q2, q3⟩
              refine ⟨q1, fun t u ht hu => ?_⟩
              rcases Nat.lt_succ_iff_lt_or_eq.mp ht with e | rfl
              · exact q2 t u e hu
              · rcases hex with e | e
                · exact q3 u (by omega)
                · have := hinv.mpr ⟨q1, q2, q3⟩; omega
            · rintro ⟨q1, q2⟩
              exact ⟨q1, fun t u ht hu => q2 t u (by omega) hu, fun u hu => q2 k u (by omega) (by omega)⟩)
          (repeat' (first | with_reducible apply And.intro | intro _))
          all_goals first
            | omega
            | assumption
        · obtain rfl : b = 1 := by omega
          have hi := hinv.mp rfl
          have i0 : clF (autR (z.1 40) s) k j → SW 77 [some (vR 39), some (vI s), none, some (vI 0), some (vI (k : Int)), some (vI ((j : Int) + 1))] (pvUp z.1 39 8 0, z.2) := fun q => ih (m - 1) (by omega) (j + 1) 0 (by omega) (Or.inl rfl) ⟨fun e => by omega, fun e => absurd q (e.2.2 j (by omega))⟩
          have i1 : ¬ clF (autR (z.1 40) s) k j → SW 77 [some (vR 39), some (vI s), none, some (vI 1), some (vI (k : Int)), some (vI ((j : Int) + 1))] (pvUp z.1 39 8 0, z.2) := fun q => ih (m - 1) (by omega) (j + 1) 1 (by omega) (Or.inr rfl) ⟨fun _ => ⟨hi.1, hi.2.1, fun u hu => by
            rcases Nat.lt_succ_iff_lt_or_eq.mp hu with e | rfl
            · exact hi.2.2 u e
            · exact q⟩, fun _ => rfl⟩
          (repeat' (first | with_reducible apply And.intro | intro _))
          all_goals first
            | omega
            | assumption
            | (apply i0; assumption)
            | (apply i1; assumption)
    have outer : ∀ (m k : Nat) (b : Int), 0 ≤ s ∧ s ≤ 1 → (k : Int) + m = (autR (z.1 40) s).1 → (b = 0 ∨ b = 1) → (b = 1 ↔ (((autR (z.1 40) s).2.1 ≠ 0 ∧ pvAnd (autR (z.1 40) s).2.1 ((autR (z.1 40) s).2.1 - 1) = 0) ∧ ∀ t u : Nat, t < k → u < t → ¬ clF (autR (z.1 40) s) t u)) →
        SW 57 [some (vR 39), some (vI s), none, some (vI b), some (vI (k : Int)), none] (pvUp z.1 39 8 0, z.2) := by
      intro m
      induction m using Nat.strongRecOn with
      | _ m ih =>
        intro k b hs hk hb hinv
        have hn := (hw hs).1
        have g := gn hs.1
        refine hc 20 _ _ _ fun _ _ => ?_
        simp only [pvSt1]
        simp only [g, pvE_aload_n0, pvLA_s, pvLd, pvE_iload_n1, pvLI_s, pvE_invokestatic (h0 := eX10_80), pvC1_s, pvC2_s, pvAf_v, pvAf_x, pvPop, pvCs, pvCat, pvPush, aX10_isDeterministic_80, pvE_if_eq, pvE_iconst, pvE_goto, pvE_putfield, pvPf_0, pvPf_1, fX10_73, pvSh_0, pvSh_1, pvSh_2, pvSh_3, pvSh_4, pvSh_5, pvSh_6, pvSh_7, pvSh_8, pvSh_9, pvSh_10, pvSh_11, pvSh_12, pvSh_13, pvSh_14, pvSh_15, pvSh_16, pvSh_17, pvSh_18, pvSh_19, pvSh_20, pvSh_21, pvSh_22, pvSh_23, pvSh_24, pvSh_25, pvSh_26, pvSh_27, pvSh_28, pvSh_29, pvSh_30, pvSh_31, pvSh_32, pvSh_33, pvSh_34, pvSh_35, pvSh_36, pvSh_37, pvSh_38, pvSh_39, pvSh_40, pvSh_41, pvSh_42, pvSh_43, pvSh_44, pvSh_45, pvSh_46, pvSh_47, pvSh_48, pvSh_49, pvSh_50, pvSh_51, pvSh_52, pvSh_53, pvSh_54, pvSh_55, pvSh_56, pvSh_57, pvSh_58, pvSh_59, pvE_getfield, pvGf_0, pvGf_1, pvGf_2, pvRf_0_0, pvRf_0_1, pvRf_0_2, pvRf_0_3, pvRf_0_4, pvRf_0_5, pvRf_0_6, pvRf_0_7, pvRf_0_8, pvRf_0_9, pvRf_0_10, pvRf_1_0, pvRf_3_0, pvRf_5_0, pvRf_5_1, pvRf_5_2, pvRf_9_0, pvRf_9_1, pvRf_9_2, pvRf_13_0, pvRf_13_1, pvRf_13_2, pvRf_17_0, pvRf_17_2, pvRf_20_0, pvRf_20_1, pvRf_20_2, pvRf_24_0, pvRf_24_1, pvRf_24_2, pvRf_28_0, pvRf_28_1, pvRf_28_2, pvRf_28_3, pvRf_33_0, pvRf_33_1, pvRf_36_0, pvRf_36_1, pvRf_39_0, pvRf_39_1, pvRf_39_2, pvRf_39_5, pvRf_39_6, pvRf_39_9, pvRf_39_13, pvRf_39_15, pvRf_39_16, pvRf_39_17, pvRf_39_19, pvRf_39_20, pvRf_39_22, pvRf_39_23, pvRf_39_24, pvRf_39_25, pvRf_39_29, pvRf_39_30, pvE_if_le, pvE_ireturn, fX10_7, pvE_sipush, pvE_imul, pvE_iaload, pvAI, pvE_istore_n2, pvS1, List.length_cons, List.length_nil, pvClr_i, pvClr_r, pvClr_l, pvClr_d, pvClr_f, pvClr_n, pvE_iload_n2, pvE_isub, pvE_iand, pvE_if_ne, pvE_istore_n3, pvE_istore, pvE_iload, pvE_iadd, pvE_icmp_ge, pvE_iload_n3, pvE_invokevirtual, aX10_isDeterministic_219, pvE_iinc, pvIc_s, bX10_isDeterministic_0, uX10_isDeterministic_0, bX10_isDeterministic_12, uX10_isDeterministic_12, bX10_isDeterministic_13, uX10_isDeterministic_13, bX10_isDeterministic_25, uX10_isDeterministic_25, bX10_isDeterministic_52, uX10_isDeterministic_52, bX10_isDeterministic_53, uX10_isDeterministic_53, bX10_isDeterministic_57, uX10_isDeterministic_57, bX10_isDeterministic_77, uX10_isDeterministic_77, bX10_isDeterministic_104, uX10_isDeterministic_104, bX10_isDeterministic_105, uX10_isDeterministic_105, bX10_isDeterministic_112, uX10_isDeterministic_112, bX10_isDeterministic_118, uX10_isDeterministic_118, pvMk_t, pvMk_f, pvMk_n, pvRecv_r, pvUp_nl, pvUp_same, pvUp_ap, pvSt_ap, pvX_c, pvX_ms, pvX_mn, pvE_nil, pvEn_i, pvEn_r, pvEn_l, pvEn_0, pvEn_s, pvRt, pvRv, pvTh, pvKc, pvGo, pvTgt, Int.toNat_natCast, false_and, and_false, true_and, and_true, if_true, if_false, reduceIte, reduceCtorEq, forall_const, false_or, or_false, true_or, or_true, ne_eq, not_true_eq_false, not_false_eq_true, implies_true, false_implies, Nat.reduceAdd, Nat.reduceSub, Nat.reduceMul, Nat.reduceEqDiff, Nat.reduceLT, Nat.reduceLeDiff, Int.reduceAdd, Int.reduceSub, Int.reduceMul, Int.reduceNeg, Int.reduceToNat, Int.reduceLE, Int.reduceLT, Int.reduceEq, Int.reduceNe, and_self]
        by_cases hkn : (autR (z.1 40) s).1 ≤ k
        · have fin : Q (.inl (some (vI b))) (pvUp z.1 39 8 0, z.2) := by
            rcases hb with rfl | rfl
            · refine h3 hs (fun q => ?_)
              have := hinv.mpr ⟨q.1, fun t u ht hu => q.2 t u (by omega) hu⟩
              omega
            · obtain ⟨q1, q2⟩ := hinv.mp rfl
              exact h2 hs ⟨q1, fun t u ht hu => q2 t u (by omega) hu⟩
          (repeat' (first | with_reducible apply And.intro | intro _))
          all_goals first
            | omega
            | assumption
        · have go := inner k hs (by omega) (fun b' hb' hi' => ih (m - 1) (by omega) (k + 1) b' hs (by omega) hb' hi') k 0 b (by omega) hb ⟨fun e => ⟨(hinv.mp e).1, (hinv.mp e).2, fun u hu => by omega⟩, fun e => hinv.mpr ⟨e.1, e.2.1⟩⟩
          (repeat' (first | with_reducible apply And.intro | intro _))
          all_goals first
            | omega
            | assumption
    refine ⟨Nat.le_of_ble_eq_true rfl, hc 20 _ _ _ fun _ _ => ?_⟩
    simp only [pvSt1]
    simp only [C_X10_isSlot, pvE_aload_n0, pvLA_s, pvLd, pvE_iload_n1, pvLI_s, pvE_invokestatic (h0 := eX10_80), pvC1_s, pvC2_s, pvAf_v, pvAf_x, pvPop, pvCs, pvCat, pvPush, aX10_isDeterministic_80, pvE_if_eq, pvE_iconst, pvE_goto, pvE_putfield, pvPf_0, pvPf_1, fX10_73, pvSh_0, pvSh_1, pvSh_2, pvSh_3, pvSh_4, pvSh_5, pvSh_6, pvSh_7, pvSh_8, pvSh_9, pvSh_10, pvSh_11, pvSh_12, pvSh_13, pvSh_14, pvSh_15, pvSh_16, pvSh_17, pvSh_18, pvSh_19, pvSh_20, pvSh_21, pvSh_22, pvSh_23, pvSh_24, pvSh_25, pvSh_26, pvSh_27, pvSh_28, pvSh_29, pvSh_30, pvSh_31, pvSh_32, pvSh_33, pvSh_34, pvSh_35, pvSh_36, pvSh_37, pvSh_38, pvSh_39, pvSh_40, pvSh_41, pvSh_42, pvSh_43, pvSh_44, pvSh_45, pvSh_46, pvSh_47, pvSh_48, pvSh_49, pvSh_50, pvSh_51, pvSh_52, pvSh_53, pvSh_54, pvSh_55, pvSh_56, pvSh_57, pvSh_58, pvSh_59, pvE_getfield, pvGf_0, pvGf_1, pvGf_2, pvRf_0_0, pvRf_0_1, pvRf_0_2, pvRf_0_3, pvRf_0_4, pvRf_0_5, pvRf_0_6, pvRf_0_7, pvRf_0_8, pvRf_0_9, pvRf_0_10, pvRf_1_0, pvRf_3_0, pvRf_5_0, pvRf_5_1, pvRf_5_2, pvRf_9_0, pvRf_9_1, pvRf_9_2, pvRf_13_0, pvRf_13_1, pvRf_13_2, pvRf_17_0, pvRf_17_2, pvRf_20_0, pvRf_20_1, pvRf_20_2, pvRf_24_0, pvRf_24_1, pvRf_24_2, pvRf_28_0, pvRf_28_1, pvRf_28_2, pvRf_28_3, pvRf_33_0, pvRf_33_1, pvRf_36_0, pvRf_36_1, pvRf_39_0, pvRf_39_1, pvRf_39_2, pvRf_39_5, pvRf_39_6, pvRf_39_9, pvRf_39_13, pvRf_39_15, pvRf_39_16, pvRf_39_17, pvRf_39_19, pvRf_39_20, pvRf_39_22, pvRf_39_23, pvRf_39_24, pvRf_39_25, pvRf_39_29, pvRf_39_30, pvE_if_le, pvE_ireturn, fX10_7, pvE_sipush, pvE_imul, pvE_iaload, pvAI, pvE_istore_n2, pvS1, List.length_cons, List.length_nil, pvClr_i, pvClr_r, pvClr_l, pvClr_d, pvClr_f, pvClr_n, pvE_iload_n2, pvE_isub, pvE_iand, pvE_if_ne, pvE_istore_n3, pvE_istore, pvE_iload, pvE_iadd, pvE_icmp_ge, pvE_iload_n3, pvE_invokevirtual, aX10_isDeterministic_219, pvE_iinc, pvIc_s, bX10_isDeterministic_0, uX10_isDeterministic_0, bX10_isDeterministic_12, uX10_isDeterministic_12, bX10_isDeterministic_13, uX10_isDeterministic_13, bX10_isDeterministic_25, uX10_isDeterministic_25, bX10_isDeterministic_52, uX10_isDeterministic_52, bX10_isDeterministic_53, uX10_isDeterministic_53, bX10_isDeterministic_57, uX10_isDeterministic_57, bX10_isDeterministic_77, uX10_isDeterministic_77, bX10_isDeterministic_104, uX10_isDeterministic_104, bX10_isDeterministic_105, uX10_isDeterministic_105, bX10_isDeterministic_112, uX10_isDeterministic_112, bX10_isDeterministic_118, uX10_isDeterministic_118, pvMk_t, pvMk_f, pvMk_n, pvRecv_r, pvUp_nl, pvUp_same, pvUp_ap, pvSt_ap, pvX_c, pvX_ms, pvX_mn, pvE_nil, pvEn_i, pvEn_r, pvEn_l, pvEn_0, pvEn_s, pvRt, pvRv, pvTh, pvKc, pvGo, pvTgt, Int.toNat_natCast, false_and, and_false, true_and, and_true, if_true, if_false, reduceIte, reduceCtorEq, forall_const, false_or, or_false, true_or, or_true, ne_eq, not_true_eq_false, not_false_eq_true, implies_true, false_implies, Nat.reduceAdd, Nat.reduceSub, Nat.reduceMul, Nat.reduceEqDiff, Nat.reduceLT, Nat.reduceLeDiff, Int.reduceAdd, Int.reduceSub, Int.reduceMul, Int.reduceNeg, Int.reduceToNat, Int.reduceLE, Int.reduceLT, Int.reduceEq, Int.reduceNe, and_self]
    by_cases hs : 0 ≤ s ∧ s ≤ 1
    · have hi := (hw hs).2.1
      have hn := (hw hs).1
      have g := gi hs.1
      have st : ∀ b : Int, (b = 0 ∨ b = 1) → (b = 1 ↔ ((autR (z.1 40) s).2.1 ≠ 0 ∧ pvAnd (autR (z.1 40) s).2.1 ((autR (z.1 40) s).2.1 - 1) = 0)) → SW 57 [some (vR 39), some (vI s), none, some (vI b), some (vI 0), none] (pvUp z.1 39 8 0, z.2) := fun b hb he => outer (autR (z.1 40) s).1.toNat 0 b hs (by omega) hb ⟨fun e => ⟨he.mp e, fun t u ht => by omega⟩, fun e => he.mpr e.1⟩
      have s0 := st 0 (Or.inl rfl)
      have s1 := st 1 (Or.inr rfl)
      rw [g]
      (repeat' (first | with_reducible apply And.intro | intro _))
      all_goals first
        | omega
        | assumption
        | (apply s0; omega)
        | (apply s1; omega)
    · have h4 := h1 hs
      (repeat' (first | with_reducible apply And.intro | intro _))
      all_goals first
        | omega
        | assumption
  · exact h.elim
