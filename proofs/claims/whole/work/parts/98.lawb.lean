/-! the law: its cases -/
set_option maxRecDepth 100000 in
set_option maxHeartbeats 4000000 in
theorem lw_21 {sc : Nat × (Nat → Int)} {Gm : Nat} {Q : pvO → pvM → Prop} {SW : Nat → pvL → pvM → Nat → Prop} (hc : pvCl2 sc Gm fL aL_law kL eL (some .boolean) bL_law uL_law Q SW) {z : pvM} {i : Int} {g : Nat} (h : lwI z) (hi : 0 ≤ i ∧ i + 5 ≤ sc.1 ∧ (sc.1 : Int) ≤ 2147483647) (hg : g + 2 ≤ Gm)
    (nx : ∀ (z' : pvM) (g' : Nat), g' ≤ g + 1 → lwI z' → SW 2760 (lwL i) z' g') : SW 1486 (lwL i) z g := by
  refine hc 20 _ _ _ _ fun _ _ => ?_
  clear hc
  simp only [pvSt2]
  simp only [pvE_aload_n1, pvLA_s, pvLd, pvE_aload_n0, pvE_iload, pvLI_s, pvE_iconst, pvE_iadd, pvE_iaload, pvAI, pvSh_0, pvSh_39, pvSh_58, pvSh_59, pvE_aload_n3, pvE_invokestatic (h0 := eL_221), pvC1_s, pvC2_s, pvAf_v, pvAf_x, pvPop, pvCs, pvCat, pvPush, aL_law_221, pvE_istore, pvS1, List.length_cons, List.length_nil, pvClr_i, pvClr_r, pvClr_l, pvClr_d, pvClr_f, pvClr_n, pvE_aload_n2, pvE_invokevirtual, aL_law_223, aL_law_150, pvE_icmp_eq, pvE_ireturn, pvE_if_ne, pvE_laload, pvAL, pvE_i2l, pvE_lcmp, pvE_if_eq, pvE_goto, bL_law_1486, uL_law_1486, bL_law_1534, uL_law_1534, bL_law_1551, uL_law_1551, bL_law_2760, uL_law_2760, pvMk_t, pvMk_f, pvMk_n, pvRecv_r, pvUp_nl, pvUp_same, pvUp_ap, pvSt_ap, pvX_c, pvX_ms, pvX_mn, pvE_nil, pvEn_i, pvEn_r, pvEn_l, pvEn_0, pvEn_s, pvRt, pvRv, pvTh, pvKc, pvGo, pvTgt, Int.toNat_natCast, false_and, and_false, true_and, and_true, if_true, if_false, reduceIte, reduceCtorEq, forall_const, false_or, or_false, true_or, or_true, ne_eq, not_true_eq_false, not_false_eq_true, implies_true, false_implies, Nat.reduceAdd, Nat.reduceSub, Nat.reduceMul, Nat.reduceEqDiff, Nat.reduceLT, Nat.reduceLeDiff, Int.reduceAdd, Int.reduceSub, Int.reduceMul, Int.reduceNeg, Int.reduceToNat, Int.reduceLE, Int.reduceLT, Int.reduceEq, Int.reduceNe, and_self]
  (repeat' first | with_reducible apply And.intro | with_reducible intro _)
  all_goals first
    | omega
    | (refine lc_firstRun h (fun k z1 R => ?_)
       simp only [pvE_aload_n1, pvLA_s, pvLd, pvE_aload_n0, pvE_iload, pvLI_s, pvE_iconst, pvE_iadd, pvE_iaload, pvAI, pvSh_0, pvSh_39, pvSh_58, pvSh_59, pvE_aload_n3, pvE_invokestatic (h0 := eL_221), pvC1_s, pvC2_s, pvAf_v, pvAf_x, pvPop, pvCs, pvCat, pvPush, aL_law_221, pvE_istore, pvS1, List.length_cons, List.length_nil, pvClr_i, pvClr_r, pvClr_l, pvClr_d, pvClr_f, pvClr_n, pvE_aload_n2, pvE_invokevirtual, aL_law_223, aL_law_150, pvE_icmp_eq, pvE_ireturn, pvE_if_ne, pvE_laload, pvAL, pvE_i2l, pvE_lcmp, pvE_if_eq, pvE_goto, bL_law_1486, uL_law_1486, bL_law_1534, uL_law_1534, bL_law_1551, uL_law_1551, bL_law_2760, uL_law_2760, pvMk_t, pvMk_f, pvMk_n, pvRecv_r, pvUp_nl, pvUp_same, pvUp_ap, pvSt_ap, pvX_c, pvX_ms, pvX_mn, pvE_nil, pvEn_i, pvEn_r, pvEn_l, pvEn_0, pvEn_s, pvRt, pvRv, pvTh, pvKc, pvGo, pvTgt, Int.toNat_natCast, false_and, and_false, true_and, and_true, if_true, if_false, reduceIte, reduceCtorEq, forall_const, false_or, or_false, true_or, or_true, ne_eq, not_true_eq_false, not_false_eq_true, implies_true, false_implies, Nat.reduceAdd, Nat.reduceSub, Nat.reduceMul, Nat.reduceEqDiff, Nat.reduceLT, Nat.reduceLeDiff, Int.reduceAdd, Int.reduceSub, Int.reduceMul, Int.reduceNeg, Int.reduceToNat, Int.reduceLE, Int.reduceLT, Int.reduceEq, Int.reduceNe, and_self]
       (repeat' first | with_reducible apply And.intro | with_reducible intro _)
       all_goals first
         | omega
         | (refine R _ (fun b z2 e8 eb hI => ?_)
            simp only [C_X10_thrown, e8, pvRt2, pvTh2, pvE_aload_n1, pvLA_s, pvLd, pvE_aload_n0, pvE_iload, pvLI_s, pvE_iconst, pvE_iadd, pvE_iaload, pvAI, pvSh_0, pvSh_39, pvSh_58, pvSh_59, pvE_aload_n3, pvE_invokestatic (h0 := eL_221), pvC1_s, pvC2_s, pvAf_v, pvAf_x, pvPop, pvCs, pvCat, pvPush, aL_law_221, pvE_istore, pvS1, List.length_cons, List.length_nil, pvClr_i, pvClr_r, pvClr_l, pvClr_d, pvClr_f, pvClr_n, pvE_aload_n2, pvE_invokevirtual, aL_law_223, aL_law_150, pvE_icmp_eq, pvE_ireturn, pvE_if_ne, pvE_laload, pvAL, pvE_i2l, pvE_lcmp, pvE_if_eq, pvE_goto, bL_law_1486, uL_law_1486, bL_law_1534, uL_law_1534, bL_law_1551, uL_law_1551, bL_law_2760, uL_law_2760, pvMk_t, pvMk_f, pvMk_n, pvRecv_r, pvUp_nl, pvUp_same, pvUp_ap, pvSt_ap, pvX_c, pvX_ms, pvX_mn, pvE_nil, pvEn_i, pvEn_r, pvEn_l, pvEn_0, pvEn_s, pvRt, pvRv, pvTh, pvKc, pvGo, pvTgt, Int.toNat_natCast, false_and, and_false, true_and, and_true, if_true, if_false, reduceIte, reduceCtorEq, forall_const, false_or, or_false, true_or, or_true, ne_eq, not_true_eq_false, not_false_eq_true, implies_true, false_implies, Nat.reduceAdd, Nat.reduceSub, Nat.reduceMul, Nat.reduceEqDiff, Nat.reduceLT, Nat.reduceLeDiff, Int.reduceAdd, Int.reduceSub, Int.reduceMul, Int.reduceNeg, Int.reduceToNat, Int.reduceLE, Int.reduceLT, Int.reduceEq, Int.reduceNe, and_self]
            (repeat' first | with_reducible apply And.intro | with_reducible intro _)
            all_goals first
              | omega
              | contradiction
              | (exact nx _ _ (by omega) hI)
              | (exact ef)
              | (rename k = 0 => k0; have eb1 := eb k0; exact eb1.2.1)
              | (rename k = 0 => k0; have eb1 := eb k0; exact eb1.2.2)
              | (rename k = 0 => k0; have eb1 := eb k0; rw [eb1.1]; first | exact eb1.2.1 | exact eb1.2.2)
              | (rename ¬ k ≠ 0 => k0; have eb1 := eb (by omega); first | exact eb1.2.1 | exact eb1.2.2 | (rw [eb1.1]; first | exact eb1.2.1 | exact eb1.2.2) | (rw [eb1]; split <;> omega))
              | (exfalso; have eb1 := eb (by omega); simp only [eb1] at *; rename ¬ (_ : Int) = 0 => q9; exact q9 (by rw [dcmp_s ef]; rfl))
              | (exfalso; have eb1 := eb (by omega); simp only [eb1] at *; simp_all; done)
              | (exfalso; have eb1 := (eb (by omega)).1; simp only [eb1] at *; simp_all; done)))
set_option maxRecDepth 100000 in
set_option maxHeartbeats 4000000 in
theorem lw_22 {sc : Nat × (Nat → Int)} {Gm : Nat} {Q : pvO → pvM → Prop} {SW : Nat → pvL → pvM → Nat → Prop} (hc : pvCl2 sc Gm fL aL_law kL eL (some .boolean) bL_law uL_law Q SW) {z : pvM} {i : Int} {g : Nat} (h : lwI z) (hi : 0 ≤ i ∧ i + 5 ≤ sc.1 ∧ (sc.1 : Int) ≤ 2147483647) (hg : g + 2 ≤ Gm)
    (nx : ∀ (z' : pvM) (g' : Nat), g' ≤ g + 1 → lwI z' → SW 2760 (lwL i) z' g') : SW 1554 (lwL i) z g := by
  refine hc 20 _ _ _ _ fun _ _ => ?_
  clear hc
  simp only [pvSt2]
  simp only [pvE_aload_n1, pvLA_s, pvLd, pvE_aload_n0, pvE_iload, pvLI_s, pvE_iconst, pvE_iadd, pvE_iaload, pvAI, pvSh_0, pvSh_39, pvSh_58, pvSh_59, pvE_aload_n3, pvE_invokestatic (h0 := eL_224), pvC1_s, pvC2_s, pvAf_v, pvAf_x, pvPop, pvCs, pvCat, pvPush, aL_law_224, pvE_istore, pvS1, List.length_cons, List.length_nil, pvClr_i, pvClr_r, pvClr_l, pvClr_d, pvClr_f, pvClr_n, pvE_aload_n2, pvE_invokevirtual, aL_law_226, aL_law_150, pvE_icmp_eq, pvE_ireturn, pvE_if_ne, pvE_laload, pvAL, pvE_i2l, pvE_lcmp, pvE_if_eq, pvE_goto, bL_law_1554, uL_law_1554, bL_law_1590, uL_law_1590, bL_law_1607, uL_law_1607, bL_law_2760, uL_law_2760, pvMk_t, pvMk_f, pvMk_n, pvRecv_r, pvUp_nl, pvUp_same, pvUp_ap, pvSt_ap, pvX_c, pvX_ms, pvX_mn, pvE_nil, pvEn_i, pvEn_r, pvEn_l, pvEn_0, pvEn_s, pvRt, pvRv, pvTh, pvKc, pvGo, pvTgt, Int.toNat_natCast, false_and, and_false, true_and, and_true, if_true, if_false, reduceIte, reduceCtorEq, forall_const, false_or, or_false, true_or, or_true, ne_eq, not_true_eq_false, not_false_eq_true, implies_true, false_implies, Nat.reduceAdd, Nat.reduceSub, Nat.reduceMul, Nat.reduceEqDiff, Nat.reduceLT, Nat.reduceLeDiff, Int.reduceAdd, Int.reduceSub, Int.reduceMul, Int.reduceNeg, Int.reduceToNat, Int.reduceLE, Int.reduceLT, Int.reduceEq, Int.reduceNe, and_self]
  (repeat' first | with_reducible apply And.intro | with_reducible intro _)
  all_goals first
    | omega
    | (refine lc_stuckAt h (fun k z1 R => ?_)
       simp only [pvE_aload_n1, pvLA_s, pvLd, pvE_aload_n0, pvE_iload, pvLI_s, pvE_iconst, pvE_iadd, pvE_iaload, pvAI, pvSh_0, pvSh_39, pvSh_58, pvSh_59, pvE_aload_n3, pvE_invokestatic (h0 := eL_224), pvC1_s, pvC2_s, pvAf_v, pvAf_x, pvPop, pvCs, pvCat, pvPush, aL_law_224, pvE_istore, pvS1, List.length_cons, List.length_nil, pvClr_i, pvClr_r, pvClr_l, pvClr_d, pvClr_f, pvClr_n, pvE_aload_n2, pvE_invokevirtual, aL_law_226, aL_law_150, pvE_icmp_eq, pvE_ireturn, pvE_if_ne, pvE_laload, pvAL, pvE_i2l, pvE_lcmp, pvE_if_eq, pvE_goto, bL_law_1554, uL_law_1554, bL_law_1590, uL_law_1590, bL_law_1607, uL_law_1607, bL_law_2760, uL_law_2760, pvMk_t, pvMk_f, pvMk_n, pvRecv_r, pvUp_nl, pvUp_same, pvUp_ap, pvSt_ap, pvX_c, pvX_ms, pvX_mn, pvE_nil, pvEn_i, pvEn_r, pvEn_l, pvEn_0, pvEn_s, pvRt, pvRv, pvTh, pvKc, pvGo, pvTgt, Int.toNat_natCast, false_and, and_false, true_and, and_true, if_true, if_false, reduceIte, reduceCtorEq, forall_const, false_or, or_false, true_or, or_true, ne_eq, not_true_eq_false, not_false_eq_true, implies_true, false_implies, Nat.reduceAdd, Nat.reduceSub, Nat.reduceMul, Nat.reduceEqDiff, Nat.reduceLT, Nat.reduceLeDiff, Int.reduceAdd, Int.reduceSub, Int.reduceMul, Int.reduceNeg, Int.reduceToNat, Int.reduceLE, Int.reduceLT, Int.reduceEq, Int.reduceNe, and_self]
       (repeat' first | with_reducible apply And.intro | with_reducible intro _)
       all_goals first
         | omega
         | (refine R _ (fun b z2 e8 eb hI => ?_)
            simp only [C_X10_thrown, e8, pvRt2, pvTh2, pvE_aload_n1, pvLA_s, pvLd, pvE_aload_n0, pvE_iload, pvLI_s, pvE_iconst, pvE_iadd, pvE_iaload, pvAI, pvSh_0, pvSh_39, pvSh_58, pvSh_59, pvE_aload_n3, pvE_invokestatic (h0 := eL_224), pvC1_s, pvC2_s, pvAf_v, pvAf_x, pvPop, pvCs, pvCat, pvPush, aL_law_224, pvE_istore, pvS1, List.length_cons, List.length_nil, pvClr_i, pvClr_r, pvClr_l, pvClr_d, pvClr_f, pvClr_n, pvE_aload_n2, pvE_invokevirtual, aL_law_226, aL_law_150, pvE_icmp_eq, pvE_ireturn, pvE_if_ne, pvE_laload, pvAL, pvE_i2l, pvE_lcmp, pvE_if_eq, pvE_goto, bL_law_1554, uL_law_1554, bL_law_1590, uL_law_1590, bL_law_1607, uL_law_1607, bL_law_2760, uL_law_2760, pvMk_t, pvMk_f, pvMk_n, pvRecv_r, pvUp_nl, pvUp_same, pvUp_ap, pvSt_ap, pvX_c, pvX_ms, pvX_mn, pvE_nil, pvEn_i, pvEn_r, pvEn_l, pvEn_0, pvEn_s, pvRt, pvRv, pvTh, pvKc, pvGo, pvTgt, Int.toNat_natCast, false_and, and_false, true_and, and_true, if_true, if_false, reduceIte, reduceCtorEq, forall_const, false_or, or_false, true_or, or_true, ne_eq, not_true_eq_false, not_false_eq_true, implies_true, false_implies, Nat.reduceAdd, Nat.reduceSub, Nat.reduceMul, Nat.reduceEqDiff, Nat.reduceLT, Nat.reduceLeDiff, Int.reduceAdd, Int.reduceSub, Int.reduceMul, Int.reduceNeg, Int.reduceToNat, Int.reduceLE, Int.reduceLT, Int.reduceEq, Int.reduceNe, and_self]
            (repeat' first | with_reducible apply And.intro | with_reducible intro _)
            all_goals first
              | omega
              | contradiction
              | (exact nx _ _ (by omega) hI)
              | (exact ef)
              | (rename k = 0 => k0; have eb1 := eb k0; exact eb1.2.1)
              | (rename k = 0 => k0; have eb1 := eb k0; exact eb1.2.2)
              | (rename k = 0 => k0; have eb1 := eb k0; rw [eb1.1]; first | exact eb1.2.1 | exact eb1.2.2)
              | (rename ¬ k ≠ 0 => k0; have eb1 := eb (by omega); first | exact eb1.2.1 | exact eb1.2.2 | (rw [eb1.1]; first | exact eb1.2.1 | exact eb1.2.2) | (rw [eb1]; split <;> omega))
              | (exfalso; have eb1 := eb (by omega); simp only [eb1] at *; rename ¬ (_ : Int) = 0 => q9; exact q9 (by rw [dcmp_s ef]; rfl))
              | (exfalso; have eb1 := eb (by omega); simp only [eb1] at *; simp_all; done)
              | (exfalso; have eb1 := (eb (by omega)).1; simp only [eb1] at *; simp_all; done)))
set_option maxRecDepth 100000 in
set_option maxHeartbeats 4000000 in
theorem lw_23 {sc : Nat × (Nat → Int)} {Gm : Nat} {Q : pvO → pvM → Prop} {SW : Nat → pvL → pvM → Nat → Prop} (hc : pvCl2 sc Gm fL aL_law kL eL (some .boolean) bL_law uL_law Q SW) {z : pvM} {i : Int} {g : Nat} (h : lwI z) (hi : 0 ≤ i ∧ i + 5 ≤ sc.1 ∧ (sc.1 : Int) ≤ 2147483647) (hg : g + 2 ≤ Gm)
    (nx : ∀ (z' : pvM) (g' : Nat), g' ≤ g + 1 → lwI z' → SW 2760 (lwL i) z' g') : SW 1610 (lwL i) z g := by
  refine hc 20 _ _ _ _ fun _ _ => ?_
  clear hc
  simp only [pvSt2]
  simp only [pvE_aload_n1, pvLA_s, pvLd, pvE_aload_n0, pvE_iload, pvLI_s, pvE_iconst, pvE_iadd, pvE_iaload, pvAI, pvSh_0, pvSh_39, pvSh_58, pvSh_59, pvE_aload_n3, pvE_invokestatic (h0 := eL_227), pvC1_s, pvC2_s, pvAf_v, pvAf_x, pvPop, pvCs, pvCat, pvPush, aL_law_227, pvE_istore, pvS1, List.length_cons, List.length_nil, pvClr_i, pvClr_r, pvClr_l, pvClr_d, pvClr_f, pvClr_n, pvE_aload_n2, pvE_invokevirtual, aL_law_229, aL_law_150, pvE_icmp_eq, pvE_ireturn, pvE_if_ne, pvE_laload, pvAL, pvE_i2l, pvE_lcmp, pvE_if_eq, pvE_goto, bL_law_1610, uL_law_1610, bL_law_1670, uL_law_1670, bL_law_1687, uL_law_1687, bL_law_2760, uL_law_2760, pvMk_t, pvMk_f, pvMk_n, pvRecv_r, pvUp_nl, pvUp_same, pvUp_ap, pvSt_ap, pvX_c, pvX_ms, pvX_mn, pvE_nil, pvEn_i, pvEn_r, pvEn_l, pvEn_0, pvEn_s, pvRt, pvRv, pvTh, pvKc, pvGo, pvTgt, Int.toNat_natCast, false_and, and_false, true_and, and_true, if_true, if_false, reduceIte, reduceCtorEq, forall_const, false_or, or_false, true_or, or_true, ne_eq, not_true_eq_false, not_false_eq_true, implies_true, false_implies, Nat.reduceAdd, Nat.reduceSub, Nat.reduceMul, Nat.reduceEqDiff, Nat.reduceLT, Nat.reduceLeDiff, Int.reduceAdd, Int.reduceSub, Int.reduceMul, Int.reduceNeg, Int.reduceToNat, Int.reduceLE, Int.reduceLT, Int.reduceEq, Int.reduceNe, and_self]
  (repeat' first | with_reducible apply And.intro | with_reducible intro _)
  all_goals first
    | omega
    | (refine lc_blockingConstraint h (fun k z1 R => ?_)
       simp only [pvE_aload_n1, pvLA_s, pvLd, pvE_aload_n0, pvE_iload, pvLI_s, pvE_iconst, pvE_iadd, pvE_iaload, pvAI, pvSh_0, pvSh_39, pvSh_58, pvSh_59, pvE_aload_n3, pvE_invokestatic (h0 := eL_227), pvC1_s, pvC2_s, pvAf_v, pvAf_x, pvPop, pvCs, pvCat, pvPush, aL_law_227, pvE_istore, pvS1, List.length_cons, List.length_nil, pvClr_i, pvClr_r, pvClr_l, pvClr_d, pvClr_f, pvClr_n, pvE_aload_n2, pvE_invokevirtual, aL_law_229, aL_law_150, pvE_icmp_eq, pvE_ireturn, pvE_if_ne, pvE_laload, pvAL, pvE_i2l, pvE_lcmp, pvE_if_eq, pvE_goto, bL_law_1610, uL_law_1610, bL_law_1670, uL_law_1670, bL_law_1687, uL_law_1687, bL_law_2760, uL_law_2760, pvMk_t, pvMk_f, pvMk_n, pvRecv_r, pvUp_nl, pvUp_same, pvUp_ap, pvSt_ap, pvX_c, pvX_ms, pvX_mn, pvE_nil, pvEn_i, pvEn_r, pvEn_l, pvEn_0, pvEn_s, pvRt, pvRv, pvTh, pvKc, pvGo, pvTgt, Int.toNat_natCast, false_and, and_false, true_and, and_true, if_true, if_false, reduceIte, reduceCtorEq, forall_const, false_or, or_false, true_or, or_true, ne_eq, not_true_eq_false, not_false_eq_true, implies_true, false_implies, Nat.reduceAdd, Nat.reduceSub, Nat.reduceMul, Nat.reduceEqDiff, Nat.reduceLT, Nat.reduceLeDiff, Int.reduceAdd, Int.reduceSub, Int.reduceMul, Int.reduceNeg, Int.reduceToNat, Int.reduceLE, Int.reduceLT, Int.reduceEq, Int.reduceNe, and_self]
       (repeat' first | with_reducible apply And.intro | with_reducible intro _)
       all_goals first
         | omega
         | (refine R _ (fun b z2 e8 eb hI => ?_)
            simp only [C_X10_thrown, e8, pvRt2, pvTh2, pvE_aload_n1, pvLA_s, pvLd, pvE_aload_n0, pvE_iload, pvLI_s, pvE_iconst, pvE_iadd, pvE_iaload, pvAI, pvSh_0, pvSh_39, pvSh_58, pvSh_59, pvE_aload_n3, pvE_invokestatic (h0 := eL_227), pvC1_s, pvC2_s, pvAf_v, pvAf_x, pvPop, pvCs, pvCat, pvPush, aL_law_227, pvE_istore, pvS1, List.length_cons, List.length_nil, pvClr_i, pvClr_r, pvClr_l, pvClr_d, pvClr_f, pvClr_n, pvE_aload_n2, pvE_invokevirtual, aL_law_229, aL_law_150, pvE_icmp_eq, pvE_ireturn, pvE_if_ne, pvE_laload, pvAL, pvE_i2l, pvE_lcmp, pvE_if_eq, pvE_goto, bL_law_1610, uL_law_1610, bL_law_1670, uL_law_1670, bL_law_1687, uL_law_1687, bL_law_2760, uL_law_2760, pvMk_t, pvMk_f, pvMk_n, pvRecv_r, pvUp_nl, pvUp_same, pvUp_ap, pvSt_ap, pvX_c, pvX_ms, pvX_mn, pvE_nil, pvEn_i, pvEn_r, pvEn_l, pvEn_0, pvEn_s, pvRt, pvRv, pvTh, pvKc, pvGo, pvTgt, Int.toNat_natCast, false_and, and_false, true_and, and_true, if_true, if_false, reduceIte, reduceCtorEq, forall_const, false_or, or_false, true_or, or_true, ne_eq, not_true_eq_false, not_false_eq_true, implies_true, false_implies, Nat.reduceAdd, Nat.reduceSub, Nat.reduceMul, Nat.reduceEqDiff, Nat.reduceLT, Nat.reduceLeDiff, Int.reduceAdd, Int.reduceSub, Int.reduceMul, Int.reduceNeg, Int.reduceToNat, Int.reduceLE, Int.reduceLT, Int.reduceEq, Int.reduceNe, and_self]
            (repeat' first | with_reducible apply And.intro | with_reducible intro _)
            all_goals first
              | omega
              | contradiction
              | (exact nx _ _ (by omega) hI)
              | (exact ef)
              | (rename k = 0 => k0; have eb1 := eb k0; exact eb1.2.1)
              | (rename k = 0 => k0; have eb1 := eb k0; exact eb1.2.2)
              | (rename k = 0 => k0; have eb1 := eb k0; rw [eb1.1]; first | exact eb1.2.1 | exact eb1.2.2)
              | (rename ¬ k ≠ 0 => k0; have eb1 := eb (by omega); first | exact eb1.2.1 | exact eb1.2.2 | (rw [eb1.1]; first | exact eb1.2.1 | exact eb1.2.2) | (rw [eb1]; split <;> omega))
              | (exfalso; have eb1 := eb (by omega); simp only [eb1] at *; rename ¬ (_ : Int) = 0 => q9; exact q9 (by rw [dcmp_s ef]; rfl))
              | (exfalso; have eb1 := eb (by omega); simp only [eb1] at *; simp_all; done)
              | (exfalso; have eb1 := (eb (by omega)).1; simp only [eb1] at *; simp_all; done)))
set_option maxRecDepth 100000 in
set_option maxHeartbeats 4000000 in
theorem lw_24 {sc : Nat × (Nat → Int)} {Gm : Nat} {Q : pvO → pvM → Prop} {SW : Nat → pvL → pvM → Nat → Prop} (hc : pvCl2 sc Gm fL aL_law kL eL (some .boolean) bL_law uL_law Q SW) {z : pvM} {i : Int} {g : Nat} (h : lwI z) (hi : 0 ≤ i ∧ i + 5 ≤ sc.1 ∧ (sc.1 : Int) ≤ 2147483647) (hg : g + 2 ≤ Gm)
    (nx : ∀ (z' : pvM) (g' : Nat), g' ≤ g + 1 → lwI z' → SW 2760 (lwL i) z' g') : SW 1690 (lwL i) z g := by
  refine hc 20 _ _ _ _ fun _ _ => ?_
  clear hc
  simp only [pvSt2]
  simp only [pvE_aload_n1, pvLA_s, pvLd, pvE_aload_n0, pvE_iload, pvLI_s, pvE_iconst, pvE_iadd, pvE_iaload, pvAI, pvSh_0, pvSh_39, pvSh_58, pvSh_59, pvE_aload_n3, pvE_invokestatic (h0 := eL_230), pvC1_s, pvC2_s, pvAf_v, pvAf_x, pvPop, pvCs, pvCat, pvPush, aL_law_230, pvE_istore, pvS1, List.length_cons, List.length_nil, pvClr_i, pvClr_r, pvClr_l, pvClr_d, pvClr_f, pvClr_n, pvE_aload_n2, pvE_invokevirtual, aL_law_232, aL_law_150, pvE_icmp_eq, pvE_ireturn, pvE_if_ne, pvE_laload, pvAL, pvE_i2l, pvE_lcmp, pvE_if_eq, pvE_goto, bL_law_1690, uL_law_1690, bL_law_1726, uL_law_1726, bL_law_1743, uL_law_1743, bL_law_2760, uL_law_2760, pvMk_t, pvMk_f, pvMk_n, pvRecv_r, pvUp_nl, pvUp_same, pvUp_ap, pvSt_ap, pvX_c, pvX_ms, pvX_mn, pvE_nil, pvEn_i, pvEn_r, pvEn_l, pvEn_0, pvEn_s, pvRt, pvRv, pvTh, pvKc, pvGo, pvTgt, Int.toNat_natCast, false_and, and_false, true_and, and_true, if_true, if_false, reduceIte, reduceCtorEq, forall_const, false_or, or_false, true_or, or_true, ne_eq, not_true_eq_false, not_false_eq_true, implies_true, false_implies, Nat.reduceAdd, Nat.reduceSub, Nat.reduceMul, Nat.reduceEqDiff, Nat.reduceLT, Nat.reduceLeDiff, Int.reduceAdd, Int.reduceSub, Int.reduceMul, Int.reduceNeg, Int.reduceToNat, Int.reduceLE, Int.reduceLT, Int.reduceEq, Int.reduceNe, and_self]
  (repeat' first | with_reducible apply And.intro | with_reducible intro _)
  all_goals first
    | omega
    | (refine lc_deterministicStates h (fun k z1 R => ?_)
       simp only [pvE_aload_n1, pvLA_s, pvLd, pvE_aload_n0, pvE_iload, pvLI_s, pvE_iconst, pvE_iadd, pvE_iaload, pvAI, pvSh_0, pvSh_39, pvSh_58, pvSh_59, pvE_aload_n3, pvE_invokestatic (h0 := eL_230), pvC1_s, pvC2_s, pvAf_v, pvAf_x, pvPop, pvCs, pvCat, pvPush, aL_law_230, pvE_istore, pvS1, List.length_cons, List.length_nil, pvClr_i, pvClr_r, pvClr_l, pvClr_d, pvClr_f, pvClr_n, pvE_aload_n2, pvE_invokevirtual, aL_law_232, aL_law_150, pvE_icmp_eq, pvE_ireturn, pvE_if_ne, pvE_laload, pvAL, pvE_i2l, pvE_lcmp, pvE_if_eq, pvE_goto, bL_law_1690, uL_law_1690, bL_law_1726, uL_law_1726, bL_law_1743, uL_law_1743, bL_law_2760, uL_law_2760, pvMk_t, pvMk_f, pvMk_n, pvRecv_r, pvUp_nl, pvUp_same, pvUp_ap, pvSt_ap, pvX_c, pvX_ms, pvX_mn, pvE_nil, pvEn_i, pvEn_r, pvEn_l, pvEn_0, pvEn_s, pvRt, pvRv, pvTh, pvKc, pvGo, pvTgt, Int.toNat_natCast, false_and, and_false, true_and, and_true, if_true, if_false, reduceIte, reduceCtorEq, forall_const, false_or, or_false, true_or, or_true, ne_eq, not_true_eq_false, not_false_eq_true, implies_true, false_implies, Nat.reduceAdd, Nat.reduceSub, Nat.reduceMul, Nat.reduceEqDiff, Nat.reduceLT, Nat.reduceLeDiff, Int.reduceAdd, Int.reduceSub, Int.reduceMul, Int.reduceNeg, Int.reduceToNat, Int.reduceLE, Int.reduceLT, Int.reduceEq, Int.reduceNe, and_self]
       (repeat' first | with_reducible apply And.intro | with_reducible intro _)
       all_goals first
         | omega
         | (refine R _ (fun b z2 e8 eb hI => ?_)
            simp only [C_X10_thrown, e8, pvRt2, pvTh2, pvE_aload_n1, pvLA_s, pvLd, pvE_aload_n0, pvE_iload, pvLI_s, pvE_iconst, pvE_iadd, pvE_iaload, pvAI, pvSh_0, pvSh_39, pvSh_58, pvSh_59, pvE_aload_n3, pvE_invokestatic (h0 := eL_230), pvC1_s, pvC2_s, pvAf_v, pvAf_x, pvPop, pvCs, pvCat, pvPush, aL_law_230, pvE_istore, pvS1, List.length_cons, List.length_nil, pvClr_i, pvClr_r, pvClr_l, pvClr_d, pvClr_f, pvClr_n, pvE_aload_n2, pvE_invokevirtual, aL_law_232, aL_law_150, pvE_icmp_eq, pvE_ireturn, pvE_if_ne, pvE_laload, pvAL, pvE_i2l, pvE_lcmp, pvE_if_eq, pvE_goto, bL_law_1690, uL_law_1690, bL_law_1726, uL_law_1726, bL_law_1743, uL_law_1743, bL_law_2760, uL_law_2760, pvMk_t, pvMk_f, pvMk_n, pvRecv_r, pvUp_nl, pvUp_same, pvUp_ap, pvSt_ap, pvX_c, pvX_ms, pvX_mn, pvE_nil, pvEn_i, pvEn_r, pvEn_l, pvEn_0, pvEn_s, pvRt, pvRv, pvTh, pvKc, pvGo, pvTgt, Int.toNat_natCast, false_and, and_false, true_and, and_true, if_true, if_false, reduceIte, reduceCtorEq, forall_const, false_or, or_false, true_or, or_true, ne_eq, not_true_eq_false, not_false_eq_true, implies_true, false_implies, Nat.reduceAdd, Nat.reduceSub, Nat.reduceMul, Nat.reduceEqDiff, Nat.reduceLT, Nat.reduceLeDiff, Int.reduceAdd, Int.reduceSub, Int.reduceMul, Int.reduceNeg, Int.reduceToNat, Int.reduceLE, Int.reduceLT, Int.reduceEq, Int.reduceNe, and_self]
            (repeat' first | with_reducible apply And.intro | with_reducible intro _)
            all_goals first
              | omega
              | contradiction
              | (exact nx _ _ (by omega) hI)
              | (exact ef)
              | (rename k = 0 => k0; have eb1 := eb k0; exact eb1.2.1)
              | (rename k = 0 => k0; have eb1 := eb k0; exact eb1.2.2)
              | (rename k = 0 => k0; have eb1 := eb k0; rw [eb1.1]; first | exact eb1.2.1 | exact eb1.2.2)
              | (rename ¬ k ≠ 0 => k0; have eb1 := eb (by omega); first | exact eb1.2.1 | exact eb1.2.2 | (rw [eb1.1]; first | exact eb1.2.1 | exact eb1.2.2) | (rw [eb1]; split <;> omega))
              | (exfalso; have eb1 := eb (by omega); simp only [eb1] at *; rename ¬ (_ : Int) = 0 => q9; exact q9 (by rw [dcmp_s ef]; rfl))
              | (exfalso; have eb1 := eb (by omega); simp only [eb1] at *; simp_all; done)
              | (exfalso; have eb1 := (eb (by omega)).1; simp only [eb1] at *; simp_all; done)))
set_option maxRecDepth 100000 in
set_option maxHeartbeats 4000000 in
theorem lw_25 {sc : Nat × (Nat → Int)} {Gm : Nat} {Q : pvO → pvM → Prop} {SW : Nat → pvL → pvM → Nat → Prop} (hc : pvCl2 sc Gm fL aL_law kL eL (some .boolean) bL_law uL_law Q SW) {z : pvM} {i : Int} {g : Nat} (h : lwI z) (hi : 0 ≤ i ∧ i + 5 ≤ sc.1 ∧ (sc.1 : Int) ≤ 2147483647) (hg : g + 2 ≤ Gm)
    (nx : ∀ (z' : pvM) (g' : Nat), g' ≤ g + 1 → lwI z' → SW 2760 (lwL i) z' g') : SW 1746 (lwL i) z g := by
  refine hc 20 _ _ _ _ fun _ _ => ?_
  clear hc
  simp only [pvSt2]
  simp only [pvE_aload_n1, pvLA_s, pvLd, pvE_aload_n0, pvE_iload, pvLI_s, pvE_iconst, pvE_iadd, pvE_iaload, pvAI, pvSh_0, pvSh_39, pvSh_58, pvSh_59, pvE_aload_n3, pvE_invokestatic (h0 := eL_233), pvC1_s, pvC2_s, pvAf_v, pvAf_x, pvPop, pvCs, pvCat, pvPush, aL_law_233, pvE_istore, pvS1, List.length_cons, List.length_nil, pvClr_i, pvClr_r, pvClr_l, pvClr_d, pvClr_f, pvClr_n, pvE_aload_n2, pvE_invokevirtual, aL_law_235, aL_law_150, pvE_icmp_eq, pvE_ireturn, pvE_if_ne, pvE_laload, pvAL, pvE_i2l, pvE_lcmp, pvE_if_eq, pvE_goto, bL_law_1746, uL_law_1746, bL_law_1794, uL_law_1794, bL_law_1811, uL_law_1811, bL_law_2760, uL_law_2760, pvMk_t, pvMk_f, pvMk_n, pvRecv_r, pvUp_nl, pvUp_same, pvUp_ap, pvSt_ap, pvX_c, pvX_ms, pvX_mn, pvE_nil, pvEn_i, pvEn_r, pvEn_l, pvEn_0, pvEn_s, pvRt, pvRv, pvTh, pvKc, pvGo, pvTgt, Int.toNat_natCast, false_and, and_false, true_and, and_true, if_true, if_false, reduceIte, reduceCtorEq, forall_const, false_or, or_false, true_or, or_true, ne_eq, not_true_eq_false, not_false_eq_true, implies_true, false_implies, Nat.reduceAdd, Nat.reduceSub, Nat.reduceMul, Nat.reduceEqDiff, Nat.reduceLT, Nat.reduceLeDiff, Int.reduceAdd, Int.reduceSub, Int.reduceMul, Int.reduceNeg, Int.reduceToNat, Int.reduceLE, Int.reduceLT, Int.reduceEq, Int.reduceNe, and_self]
  (repeat' first | with_reducible apply And.intro | with_reducible intro _)
  all_goals first
    | omega
    | (refine lc_deterministicSet h (fun k z1 R => ?_)
       simp only [pvE_aload_n1, pvLA_s, pvLd, pvE_aload_n0, pvE_iload, pvLI_s, pvE_iconst, pvE_iadd, pvE_iaload, pvAI, pvSh_0, pvSh_39, pvSh_58, pvSh_59, pvE_aload_n3, pvE_invokestatic (h0 := eL_233), pvC1_s, pvC2_s, pvAf_v, pvAf_x, pvPop, pvCs, pvCat, pvPush, aL_law_233, pvE_istore, pvS1, List.length_cons, List.length_nil, pvClr_i, pvClr_r, pvClr_l, pvClr_d, pvClr_f, pvClr_n, pvE_aload_n2, pvE_invokevirtual, aL_law_235, aL_law_150, pvE_icmp_eq, pvE_ireturn, pvE_if_ne, pvE_laload, pvAL, pvE_i2l, pvE_lcmp, pvE_if_eq, pvE_goto, bL_law_1746, uL_law_1746, bL_law_1794, uL_law_1794, bL_law_1811, uL_law_1811, bL_law_2760, uL_law_2760, pvMk_t, pvMk_f, pvMk_n, pvRecv_r, pvUp_nl, pvUp_same, pvUp_ap, pvSt_ap, pvX_c, pvX_ms, pvX_mn, pvE_nil, pvEn_i, pvEn_r, pvEn_l, pvEn_0, pvEn_s, pvRt, pvRv, pvTh, pvKc, pvGo, pvTgt, Int.toNat_natCast, false_and, and_false, true_and, and_true, if_true, if_false, reduceIte, reduceCtorEq, forall_const, false_or, or_false, true_or, or_true, ne_eq, not_true_eq_false, not_false_eq_true, implies_true, false_implies, Nat.reduceAdd, Nat.reduceSub, Nat.reduceMul, Nat.reduceEqDiff, Nat.reduceLT, Nat.reduceLeDiff, Int.reduceAdd, Int.reduceSub, Int.reduceMul, Int.reduceNeg, Int.reduceToNat, Int.reduceLE, Int.reduceLT, Int.reduceEq, Int.reduceNe, and_self]
       (repeat' first | with_reducible apply And.intro | with_reducible intro _)
       all_goals first
         | omega
         | (refine R _ (fun b z2 e8 eb hI => ?_)
            simp only [C_X10_thrown, e8, pvRt2, pvTh2, pvE_aload_n1, pvLA_s, pvLd, pvE_aload_n0, pvE_iload, pvLI_s, pvE_iconst, pvE_iadd, pvE_iaload, pvAI, pvSh_0, pvSh_39, pvSh_58, pvSh_59, pvE_aload_n3, pvE_invokestatic (h0 := eL_233), pvC1_s, pvC2_s, pvAf_v, pvAf_x, pvPop, pvCs, pvCat, pvPush, aL_law_233, pvE_istore, pvS1, List.length_cons, List.length_nil, pvClr_i, pvClr_r, pvClr_l, pvClr_d, pvClr_f, pvClr_n, pvE_aload_n2, pvE_invokevirtual, aL_law_235, aL_law_150, pvE_icmp_eq, pvE_ireturn, pvE_if_ne, pvE_laload, pvAL, pvE_i2l, pvE_lcmp, pvE_if_eq, pvE_goto, bL_law_1746, uL_law_1746, bL_law_1794, uL_law_1794, bL_law_1811, uL_law_1811, bL_law_2760, uL_law_2760, pvMk_t, pvMk_f, pvMk_n, pvRecv_r, pvUp_nl, pvUp_same, pvUp_ap, pvSt_ap, pvX_c, pvX_ms, pvX_mn, pvE_nil, pvEn_i, pvEn_r, pvEn_l, pvEn_0, pvEn_s, pvRt, pvRv, pvTh, pvKc, pvGo, pvTgt, Int.toNat_natCast, false_and, and_false, true_and, and_true, if_true, if_false, reduceIte, reduceCtorEq, forall_const, false_or, or_false, true_or, or_true, ne_eq, not_true_eq_false, not_false_eq_true, implies_true, false_implies, Nat.reduceAdd, Nat.reduceSub, Nat.reduceMul, Nat.reduceEqDiff, Nat.reduceLT, Nat.reduceLeDiff, Int.reduceAdd, Int.reduceSub, Int.reduceMul, Int.reduceNeg, Int.reduceToNat, Int.reduceLE, Int.reduceLT, Int.reduceEq, Int.reduceNe, and_self]
            (repeat' first | with_reducible apply And.intro | with_reducible intro _)
            all_goals first
              | omega
              | contradiction
              | (exact nx _ _ (by omega) hI)
              | (exact ef)
              | (rename k = 0 => k0; have eb1 := eb k0; exact eb1.2.1)
              | (rename k = 0 => k0; have eb1 := eb k0; exact eb1.2.2)
              | (rename k = 0 => k0; have eb1 := eb k0; rw [eb1.1]; first | exact eb1.2.1 | exact eb1.2.2)
              | (rename ¬ k ≠ 0 => k0; have eb1 := eb (by omega); first | exact eb1.2.1 | exact eb1.2.2 | (rw [eb1.1]; first | exact eb1.2.1 | exact eb1.2.2) | (rw [eb1]; split <;> omega))
              | (exfalso; have eb1 := eb (by omega); simp only [eb1] at *; rename ¬ (_ : Int) = 0 => q9; exact q9 (by rw [dcmp_s ef]; rfl))
              | (exfalso; have eb1 := eb (by omega); simp only [eb1] at *; simp_all; done)
              | (exfalso; have eb1 := (eb (by omega)).1; simp only [eb1] at *; simp_all; done)))
set_option maxRecDepth 100000 in
set_option maxHeartbeats 4000000 in
theorem lw_26 {sc : Nat × (Nat → Int)} {Gm : Nat} {Q : pvO → pvM → Prop} {SW : Nat → pvL → pvM → Nat → Prop} (hc : pvCl2 sc Gm fL aL_law kL eL (some .boolean) bL_law uL_law Q SW) {z : pvM} {i : Int} {g : Nat} (h : lwI z) (hi : 0 ≤ i ∧ i + 5 ≤ sc.1 ∧ (sc.1 : Int) ≤ 2147483647) (hg : g + 2 ≤ Gm)
    (nx : ∀ (z' : pvM) (g' : Nat), g' ≤ g + 1 → lwI z' → SW 2760 (lwL i) z' g') : SW 1814 (lwL i) z g := by
  refine hc 20 _ _ _ _ fun _ _ => ?_
  clear hc
  simp only [pvSt2]
  simp only [pvE_aload_n1, pvLA_s, pvLd, pvE_aload_n0, pvE_iload, pvLI_s, pvE_iconst, pvE_iadd, pvE_iaload, pvAI, pvSh_0, pvSh_39, pvSh_58, pvSh_59, pvE_aload_n3, pvE_invokestatic (h0 := eL_236), pvC1_s, pvC2_s, pvAf_v, pvAf_x, pvPop, pvCs, pvCat, pvPush, aL_law_236, pvE_istore, pvS1, List.length_cons, List.length_nil, pvClr_i, pvClr_r, pvClr_l, pvClr_d, pvClr_f, pvClr_n, pvE_aload_n2, pvE_invokevirtual, aL_law_238, aL_law_150, pvE_icmp_eq, pvE_ireturn, pvE_if_ne, pvE_laload, pvAL, pvE_i2l, pvE_lcmp, pvE_if_eq, pvE_goto, bL_law_1814, uL_law_1814, bL_law_1874, uL_law_1874, bL_law_1891, uL_law_1891, bL_law_2760, uL_law_2760, pvMk_t, pvMk_f, pvMk_n, pvRecv_r, pvUp_nl, pvUp_same, pvUp_ap, pvSt_ap, pvX_c, pvX_ms, pvX_mn, pvE_nil, pvEn_i, pvEn_r, pvEn_l, pvEn_0, pvEn_s, pvRt, pvRv, pvTh, pvKc, pvGo, pvTgt, Int.toNat_natCast, false_and, and_false, true_and, and_true, if_true, if_false, reduceIte, reduceCtorEq, forall_const, false_or, or_false, true_or, or_true, ne_eq, not_true_eq_false, not_false_eq_true, implies_true, false_implies, Nat.reduceAdd, Nat.reduceSub, Nat.reduceMul, Nat.reduceEqDiff, Nat.reduceLT, Nat.reduceLeDiff, Int.reduceAdd, Int.reduceSub, Int.reduceMul, Int.reduceNeg, Int.reduceToNat, Int.reduceLE, Int.reduceLT, Int.reduceEq, Int.reduceNe, and_self]
  (repeat' first | with_reducible apply And.intro | with_reducible intro _)
  all_goals first
    | omega
    | (refine lc_branches h (fun k z1 R => ?_)
       simp only [pvE_aload_n1, pvLA_s, pvLd, pvE_aload_n0, pvE_iload, pvLI_s, pvE_iconst, pvE_iadd, pvE_iaload, pvAI, pvSh_0, pvSh_39, pvSh_58, pvSh_59, pvE_aload_n3, pvE_invokestatic (h0 := eL_236), pvC1_s, pvC2_s, pvAf_v, pvAf_x, pvPop, pvCs, pvCat, pvPush, aL_law_236, pvE_istore, pvS1, List.length_cons, List.length_nil, pvClr_i, pvClr_r, pvClr_l, pvClr_d, pvClr_f, pvClr_n, pvE_aload_n2, pvE_invokevirtual, aL_law_238, aL_law_150, pvE_icmp_eq, pvE_ireturn, pvE_if_ne, pvE_laload, pvAL, pvE_i2l, pvE_lcmp, pvE_if_eq, pvE_goto, bL_law_1814, uL_law_1814, bL_law_1874, uL_law_1874, bL_law_1891, uL_law_1891, bL_law_2760, uL_law_2760, pvMk_t, pvMk_f, pvMk_n, pvRecv_r, pvUp_nl, pvUp_same, pvUp_ap, pvSt_ap, pvX_c, pvX_ms, pvX_mn, pvE_nil, pvEn_i, pvEn_r, pvEn_l, pvEn_0, pvEn_s, pvRt, pvRv, pvTh, pvKc, pvGo, pvTgt, Int.toNat_natCast, false_and, and_false, true_and, and_true, if_true, if_false, reduceIte, reduceCtorEq, forall_const, false_or, or_false, true_or, or_true, ne_eq, not_true_eq_false, not_false_eq_true, implies_true, false_implies, Nat.reduceAdd, Nat.reduceSub, Nat.reduceMul, Nat.reduceEqDiff, Nat.reduceLT, Nat.reduceLeDiff, Int.reduceAdd, Int.reduceSub, Int.reduceMul, Int.reduceNeg, Int.reduceToNat, Int.reduceLE, Int.reduceLT, Int.reduceEq, Int.reduceNe, and_self]
       (repeat' first | with_reducible apply And.intro | with_reducible intro _)
       all_goals first
         | omega
         | (refine R _ (fun b z2 e8 eb hI => ?_)
            simp only [C_X10_thrown, e8, pvRt2, pvTh2, pvE_aload_n1, pvLA_s, pvLd, pvE_aload_n0, pvE_iload, pvLI_s, pvE_iconst, pvE_iadd, pvE_iaload, pvAI, pvSh_0, pvSh_39, pvSh_58, pvSh_59, pvE_aload_n3, pvE_invokestatic (h0 := eL_236), pvC1_s, pvC2_s, pvAf_v, pvAf_x, pvPop, pvCs, pvCat, pvPush, aL_law_236, pvE_istore, pvS1, List.length_cons, List.length_nil, pvClr_i, pvClr_r, pvClr_l, pvClr_d, pvClr_f, pvClr_n, pvE_aload_n2, pvE_invokevirtual, aL_law_238, aL_law_150, pvE_icmp_eq, pvE_ireturn, pvE_if_ne, pvE_laload, pvAL, pvE_i2l, pvE_lcmp, pvE_if_eq, pvE_goto, bL_law_1814, uL_law_1814, bL_law_1874, uL_law_1874, bL_law_1891, uL_law_1891, bL_law_2760, uL_law_2760, pvMk_t, pvMk_f, pvMk_n, pvRecv_r, pvUp_nl, pvUp_same, pvUp_ap, pvSt_ap, pvX_c, pvX_ms, pvX_mn, pvE_nil, pvEn_i, pvEn_r, pvEn_l, pvEn_0, pvEn_s, pvRt, pvRv, pvTh, pvKc, pvGo, pvTgt, Int.toNat_natCast, false_and, and_false, true_and, and_true, if_true, if_false, reduceIte, reduceCtorEq, forall_const, false_or, or_false, true_or, or_true, ne_eq, not_true_eq_false, not_false_eq_true, implies_true, false_implies, Nat.reduceAdd, Nat.reduceSub, Nat.reduceMul, Nat.reduceEqDiff, Nat.reduceLT, Nat.reduceLeDiff, Int.reduceAdd, Int.reduceSub, Int.reduceMul, Int.reduceNeg, Int.reduceToNat, Int.reduceLE, Int.reduceLT, Int.reduceEq, Int.reduceNe, and_self]
            (repeat' first | with_reducible apply And.intro | with_reducible intro _)
            all_goals first
              | omega
              | contradiction
              | (exact nx _ _ (by omega) hI)
              | (exact ef)
              | (rename k = 0 => k0; have eb1 := eb k0; exact eb1.2.1)
              | (rename k = 0 => k0; have eb1 := eb k0; exact eb1.2.2)
              | (rename k = 0 => k0; have eb1 := eb k0; rw [eb1.1]; first | exact eb1.2.1 | exact eb1.2.2)
              | (rename ¬ k ≠ 0 => k0; have eb1 := eb (by omega); first | exact eb1.2.1 | exact eb1.2.2 | (rw [eb1.1]; first | exact eb1.2.1 | exact eb1.2.2) | (rw [eb1]; split <;> omega))
              | (exfalso; have eb1 := eb (by omega); simp only [eb1] at *; rename ¬ (_ : Int) = 0 => q9; exact q9 (by rw [dcmp_s ef]; rfl))
              | (exfalso; have eb1 := eb (by omega); simp only [eb1] at *; simp_all; done)
              | (exfalso; have eb1 := (eb (by omega)).1; simp only [eb1] at *; simp_all; done)))
set_option maxRecDepth 100000 in
set_option maxHeartbeats 4000000 in
theorem lw_27 {sc : Nat × (Nat → Int)} {Gm : Nat} {Q : pvO → pvM → Prop} {SW : Nat → pvL → pvM → Nat → Prop} (hc : pvCl2 sc Gm fL aL_law kL eL (some .boolean) bL_law uL_law Q SW) {z : pvM} {i : Int} {g : Nat} (h : lwI z) (hi : 0 ≤ i ∧ i + 5 ≤ sc.1 ∧ (sc.1 : Int) ≤ 2147483647) (hg : g + 2 ≤ Gm)
    (nx : ∀ (z' : pvM) (g' : Nat), g' ≤ g + 1 → lwI z' → SW 2760 (lwL i) z' g') : SW 1894 (lwL i) z g := by
  refine hc 20 _ _ _ _ fun _ _ => ?_
  clear hc
  simp only [pvSt2]
  simp only [pvE_aload_n1, pvLA_s, pvLd, pvE_aload_n0, pvE_iload, pvLI_s, pvE_iconst, pvE_iadd, pvE_iaload, pvAI, pvSh_0, pvSh_39, pvSh_58, pvSh_59, pvE_aload_n3, pvE_invokestatic (h0 := eL_239), pvC1_s, pvC2_s, pvAf_v, pvAf_x, pvPop, pvCs, pvCat, pvPush, aL_law_239, pvE_istore, pvS1, List.length_cons, List.length_nil, pvClr_i, pvClr_r, pvClr_l, pvClr_d, pvClr_f, pvClr_n, pvE_aload_n2, pvE_invokevirtual, aL_law_241, aL_law_150, pvE_icmp_eq, pvE_ireturn, pvE_if_ne, pvE_laload, pvAL, pvE_i2l, pvE_lcmp, pvE_if_eq, pvE_goto, bL_law_1894, uL_law_1894, bL_law_1966, uL_law_1966, bL_law_1983, uL_law_1983, bL_law_2760, uL_law_2760, pvMk_t, pvMk_f, pvMk_n, pvRecv_r, pvUp_nl, pvUp_same, pvUp_ap, pvSt_ap, pvX_c, pvX_ms, pvX_mn, pvE_nil, pvEn_i, pvEn_r, pvEn_l, pvEn_0, pvEn_s, pvRt, pvRv, pvTh, pvKc, pvGo, pvTgt, Int.toNat_natCast, false_and, and_false, true_and, and_true, if_true, if_false, reduceIte, reduceCtorEq, forall_const, false_or, or_false, true_or, or_true, ne_eq, not_true_eq_false, not_false_eq_true, implies_true, false_implies, Nat.reduceAdd, Nat.reduceSub, Nat.reduceMul, Nat.reduceEqDiff, Nat.reduceLT, Nat.reduceLeDiff, Int.reduceAdd, Int.reduceSub, Int.reduceMul, Int.reduceNeg, Int.reduceToNat, Int.reduceLE, Int.reduceLT, Int.reduceEq, Int.reduceNe, and_self]
  (repeat' first | with_reducible apply And.intro | with_reducible intro _)
  all_goals first
    | omega
    | (refine lc_branchTarget h (fun k z1 R => ?_)
       simp only [pvE_aload_n1, pvLA_s, pvLd, pvE_aload_n0, pvE_iload, pvLI_s, pvE_iconst, pvE_iadd, pvE_iaload, pvAI, pvSh_0, pvSh_39, pvSh_58, pvSh_59, pvE_aload_n3, pvE_invokestatic (h0 := eL_239), pvC1_s, pvC2_s, pvAf_v, pvAf_x, pvPop, pvCs, pvCat, pvPush, aL_law_239, pvE_istore, pvS1, List.length_cons, List.length_nil, pvClr_i, pvClr_r, pvClr_l, pvClr_d, pvClr_f, pvClr_n, pvE_aload_n2, pvE_invokevirtual, aL_law_241, aL_law_150, pvE_icmp_eq, pvE_ireturn, pvE_if_ne, pvE_laload, pvAL, pvE_i2l, pvE_lcmp, pvE_if_eq, pvE_goto, bL_law_1894, uL_law_1894, bL_law_1966, uL_law_1966, bL_law_1983, uL_law_1983, bL_law_2760, uL_law_2760, pvMk_t, pvMk_f, pvMk_n, pvRecv_r, pvUp_nl, pvUp_same, pvUp_ap, pvSt_ap, pvX_c, pvX_ms, pvX_mn, pvE_nil, pvEn_i, pvEn_r, pvEn_l, pvEn_0, pvEn_s, pvRt, pvRv, pvTh, pvKc, pvGo, pvTgt, Int.toNat_natCast, false_and, and_false, true_and, and_true, if_true, if_false, reduceIte, reduceCtorEq, forall_const, false_or, or_false, true_or, or_true, ne_eq, not_true_eq_false, not_false_eq_true, implies_true, false_implies, Nat.reduceAdd, Nat.reduceSub, Nat.reduceMul, Nat.reduceEqDiff, Nat.reduceLT, Nat.reduceLeDiff, Int.reduceAdd, Int.reduceSub, Int.reduceMul, Int.reduceNeg, Int.reduceToNat, Int.reduceLE, Int.reduceLT, Int.reduceEq, Int.reduceNe, and_self]
       (repeat' first | with_reducible apply And.intro | with_reducible intro _)
       all_goals first
         | omega
         | (refine R _ (fun b z2 e8 eb hI => ?_)
            simp only [C_X10_thrown, e8, pvRt2, pvTh2, pvE_aload_n1, pvLA_s, pvLd, pvE_aload_n0, pvE_iload, pvLI_s, pvE_iconst, pvE_iadd, pvE_iaload, pvAI, pvSh_0, pvSh_39, pvSh_58, pvSh_59, pvE_aload_n3, pvE_invokestatic (h0 := eL_239), pvC1_s, pvC2_s, pvAf_v, pvAf_x, pvPop, pvCs, pvCat, pvPush, aL_law_239, pvE_istore, pvS1, List.length_cons, List.length_nil, pvClr_i, pvClr_r, pvClr_l, pvClr_d, pvClr_f, pvClr_n, pvE_aload_n2, pvE_invokevirtual, aL_law_241, aL_law_150, pvE_icmp_eq, pvE_ireturn, pvE_if_ne, pvE_laload, pvAL, pvE_i2l, pvE_lcmp, pvE_if_eq, pvE_goto, bL_law_1894, uL_law_1894, bL_law_1966, uL_law_1966, bL_law_1983, uL_law_1983, bL_law_2760, uL_law_2760, pvMk_t, pvMk_f, pvMk_n, pvRecv_r, pvUp_nl, pvUp_same, pvUp_ap, pvSt_ap, pvX_c, pvX_ms, pvX_mn, pvE_nil, pvEn_i, pvEn_r, pvEn_l, pvEn_0, pvEn_s, pvRt, pvRv, pvTh, pvKc, pvGo, pvTgt, Int.toNat_natCast, false_and, and_false, true_and, and_true, if_true, if_false, reduceIte, reduceCtorEq, forall_const, false_or, or_false, true_or, or_true, ne_eq, not_true_eq_false, not_false_eq_true, implies_true, false_implies, Nat.reduceAdd, Nat.reduceSub, Nat.reduceMul, Nat.reduceEqDiff, Nat.reduceLT, Nat.reduceLeDiff, Int.reduceAdd, Int.reduceSub, Int.reduceMul, Int.reduceNeg, Int.reduceToNat, Int.reduceLE, Int.reduceLT, Int.reduceEq, Int.reduceNe, and_self]
            (repeat' first | with_reducible apply And.intro | with_reducible intro _)
            all_goals first
              | omega
              | contradiction
              | (exact nx _ _ (by omega) hI)
              | (exact ef)
              | (rename k = 0 => k0; have eb1 := eb k0; exact eb1.2.1)
              | (rename k = 0 => k0; have eb1 := eb k0; exact eb1.2.2)
              | (rename k = 0 => k0; have eb1 := eb k0; rw [eb1.1]; first | exact eb1.2.1 | exact eb1.2.2)
              | (rename ¬ k ≠ 0 => k0; have eb1 := eb (by omega); first | exact eb1.2.1 | exact eb1.2.2 | (rw [eb1.1]; first | exact eb1.2.1 | exact eb1.2.2) | (rw [eb1]; split <;> omega))
              | (exfalso; have eb1 := eb (by omega); simp only [eb1] at *; rename ¬ (_ : Int) = 0 => q9; exact q9 (by rw [dcmp_s ef]; rfl))
              | (exfalso; have eb1 := eb (by omega); simp only [eb1] at *; simp_all; done)
              | (exfalso; have eb1 := (eb (by omega)).1; simp only [eb1] at *; simp_all; done)))
set_option maxRecDepth 100000 in
set_option maxHeartbeats 4000000 in
theorem lw_28 {sc : Nat × (Nat → Int)} {Gm : Nat} {Q : pvO → pvM → Prop} {SW : Nat → pvL → pvM → Nat → Prop} (hc : pvCl2 sc Gm fL aL_law kL eL (some .boolean) bL_law uL_law Q SW) {z : pvM} {i : Int} {g : Nat} (h : lwI z) (hi : 0 ≤ i ∧ i + 5 ≤ sc.1 ∧ (sc.1 : Int) ≤ 2147483647) (hg : g + 2 ≤ Gm)
    (nx : ∀ (z' : pvM) (g' : Nat), g' ≤ g + 1 → lwI z' → SW 2760 (lwL i) z' g') : SW 1986 (lwL i) z g := by
  refine hc 20 _ _ _ _ fun _ _ => ?_
  clear hc
  simp only [pvSt2]
  simp only [pvE_aload_n1, pvLA_s, pvLd, pvE_aload_n0, pvE_iload, pvLI_s, pvE_iconst, pvE_iadd, pvE_iaload, pvAI, pvSh_0, pvSh_39, pvSh_58, pvSh_59, pvE_aload_n3, pvE_invokestatic (h0 := eL_242), pvC1_s, pvC2_s, pvAf_v, pvAf_x, pvPop, pvCs, pvCat, pvPush, aL_law_242, pvE_istore, pvS1, List.length_cons, List.length_nil, pvClr_i, pvClr_r, pvClr_l, pvClr_d, pvClr_f, pvClr_n, pvE_aload_n2, pvE_invokevirtual, aL_law_244, aL_law_150, pvE_icmp_eq, pvE_ireturn, pvE_if_ne, pvE_laload, pvAL, pvE_i2l, pvE_lcmp, pvE_if_eq, pvE_goto, bL_law_1986, uL_law_1986, bL_law_2058, uL_law_2058, bL_law_2075, uL_law_2075, bL_law_2760, uL_law_2760, pvMk_t, pvMk_f, pvMk_n, pvRecv_r, pvUp_nl, pvUp_same, pvUp_ap, pvSt_ap, pvX_c, pvX_ms, pvX_mn, pvE_nil, pvEn_i, pvEn_r, pvEn_l, pvEn_0, pvEn_s, pvRt, pvRv, pvTh, pvKc, pvGo, pvTgt, Int.toNat_natCast, false_and, and_false, true_and, and_true, if_true, if_false, reduceIte, reduceCtorEq, forall_const, false_or, or_false, true_or, or_true, ne_eq, not_true_eq_false, not_false_eq_true, implies_true, false_implies, Nat.reduceAdd, Nat.reduceSub, Nat.reduceMul, Nat.reduceEqDiff, Nat.reduceLT, Nat.reduceLeDiff, Int.reduceAdd, Int.reduceSub, Int.reduceMul, Int.reduceNeg, Int.reduceToNat, Int.reduceLE, Int.reduceLT, Int.reduceEq, Int.reduceNe, and_self]
  (repeat' first | with_reducible apply And.intro | with_reducible intro _)
  all_goals first
    | omega
    | (refine lc_branchValuations h (fun k z1 R => ?_)
       simp only [pvE_aload_n1, pvLA_s, pvLd, pvE_aload_n0, pvE_iload, pvLI_s, pvE_iconst, pvE_iadd, pvE_iaload, pvAI, pvSh_0, pvSh_39, pvSh_58, pvSh_59, pvE_aload_n3, pvE_invokestatic (h0 := eL_242), pvC1_s, pvC2_s, pvAf_v, pvAf_x, pvPop, pvCs, pvCat, pvPush, aL_law_242, pvE_istore, pvS1, List.length_cons, List.length_nil, pvClr_i, pvClr_r, pvClr_l, pvClr_d, pvClr_f, pvClr_n, pvE_aload_n2, pvE_invokevirtual, aL_law_244, aL_law_150, pvE_icmp_eq, pvE_ireturn, pvE_if_ne, pvE_laload, pvAL, pvE_i2l, pvE_lcmp, pvE_if_eq, pvE_goto, bL_law_1986, uL_law_1986, bL_law_2058, uL_law_2058, bL_law_2075, uL_law_2075, bL_law_2760, uL_law_2760, pvMk_t, pvMk_f, pvMk_n, pvRecv_r, pvUp_nl, pvUp_same, pvUp_ap, pvSt_ap, pvX_c, pvX_ms, pvX_mn, pvE_nil, pvEn_i, pvEn_r, pvEn_l, pvEn_0, pvEn_s, pvRt, pvRv, pvTh, pvKc, pvGo, pvTgt, Int.toNat_natCast, false_and, and_false, true_and, and_true, if_true, if_false, reduceIte, reduceCtorEq, forall_const, false_or, or_false, true_or, or_true, ne_eq, not_true_eq_false, not_false_eq_true, implies_true, false_implies, Nat.reduceAdd, Nat.reduceSub, Nat.reduceMul, Nat.reduceEqDiff, Nat.reduceLT, Nat.reduceLeDiff, Int.reduceAdd, Int.reduceSub, Int.reduceMul, Int.reduceNeg, Int.reduceToNat, Int.reduceLE, Int.reduceLT, Int.reduceEq, Int.reduceNe, and_self]
       (repeat' first | with_reducible apply And.intro | with_reducible intro _)
       all_goals first
         | omega
         | (refine R _ (fun b z2 e8 eb hI => ?_)
            simp only [C_X10_thrown, e8, pvRt2, pvTh2, pvE_aload_n1, pvLA_s, pvLd, pvE_aload_n0, pvE_iload, pvLI_s, pvE_iconst, pvE_iadd, pvE_iaload, pvAI, pvSh_0, pvSh_39, pvSh_58, pvSh_59, pvE_aload_n3, pvE_invokestatic (h0 := eL_242), pvC1_s, pvC2_s, pvAf_v, pvAf_x, pvPop, pvCs, pvCat, pvPush, aL_law_242, pvE_istore, pvS1, List.length_cons, List.length_nil, pvClr_i, pvClr_r, pvClr_l, pvClr_d, pvClr_f, pvClr_n, pvE_aload_n2, pvE_invokevirtual, aL_law_244, aL_law_150, pvE_icmp_eq, pvE_ireturn, pvE_if_ne, pvE_laload, pvAL, pvE_i2l, pvE_lcmp, pvE_if_eq, pvE_goto, bL_law_1986, uL_law_1986, bL_law_2058, uL_law_2058, bL_law_2075, uL_law_2075, bL_law_2760, uL_law_2760, pvMk_t, pvMk_f, pvMk_n, pvRecv_r, pvUp_nl, pvUp_same, pvUp_ap, pvSt_ap, pvX_c, pvX_ms, pvX_mn, pvE_nil, pvEn_i, pvEn_r, pvEn_l, pvEn_0, pvEn_s, pvRt, pvRv, pvTh, pvKc, pvGo, pvTgt, Int.toNat_natCast, false_and, and_false, true_and, and_true, if_true, if_false, reduceIte, reduceCtorEq, forall_const, false_or, or_false, true_or, or_true, ne_eq, not_true_eq_false, not_false_eq_true, implies_true, false_implies, Nat.reduceAdd, Nat.reduceSub, Nat.reduceMul, Nat.reduceEqDiff, Nat.reduceLT, Nat.reduceLeDiff, Int.reduceAdd, Int.reduceSub, Int.reduceMul, Int.reduceNeg, Int.reduceToNat, Int.reduceLE, Int.reduceLT, Int.reduceEq, Int.reduceNe, and_self]
            (repeat' first | with_reducible apply And.intro | with_reducible intro _)
            all_goals first
              | omega
              | contradiction
              | (exact nx _ _ (by omega) hI)
              | (exact ef)
              | (rename k = 0 => k0; have eb1 := eb k0; exact eb1.2.1)
              | (rename k = 0 => k0; have eb1 := eb k0; exact eb1.2.2)
              | (rename k = 0 => k0; have eb1 := eb k0; rw [eb1.1]; first | exact eb1.2.1 | exact eb1.2.2)
              | (rename ¬ k ≠ 0 => k0; have eb1 := eb (by omega); first | exact eb1.2.1 | exact eb1.2.2 | (rw [eb1.1]; first | exact eb1.2.1 | exact eb1.2.2) | (rw [eb1]; split <;> omega))
              | (exfalso; have eb1 := eb (by omega); simp only [eb1] at *; rename ¬ (_ : Int) = 0 => q9; exact q9 (by rw [dcmp_s ef]; rfl))
              | (exfalso; have eb1 := eb (by omega); simp only [eb1] at *; simp_all; done)
              | (exfalso; have eb1 := (eb (by omega)).1; simp only [eb1] at *; simp_all; done)))
set_option maxRecDepth 100000 in
set_option maxHeartbeats 4000000 in
theorem lw_29 {sc : Nat × (Nat → Int)} {Gm : Nat} {Q : pvO → pvM → Prop} {SW : Nat → pvL → pvM → Nat → Prop} (hc : pvCl2 sc Gm fL aL_law kL eL (some .boolean) bL_law uL_law Q SW) {z : pvM} {i : Int} {g : Nat} (h : lwI z) (hi : 0 ≤ i ∧ i + 5 ≤ sc.1 ∧ (sc.1 : Int) ≤ 2147483647) (hg : g + 2 ≤ Gm)
    (nx : ∀ (z' : pvM) (g' : Nat), g' ≤ g + 1 → lwI z' → SW 2760 (lwL i) z' g') : SW 2078 (lwL i) z g := by
  refine hc 20 _ _ _ _ fun _ _ => ?_
  clear hc
  simp only [pvSt2]
  simp only [pvE_aload_n1, pvLA_s, pvLd, pvE_aload_n0, pvE_iload, pvLI_s, pvE_iconst, pvE_iadd, pvE_iaload, pvAI, pvSh_0, pvSh_39, pvSh_58, pvSh_59, pvE_aload_n3, pvE_invokestatic (h0 := eL_245), pvC1_s, pvC2_s, pvAf_v, pvAf_x, pvPop, pvCs, pvCat, pvPush, aL_law_245, pvE_istore, pvS1, List.length_cons, List.length_nil, pvClr_i, pvClr_r, pvClr_l, pvClr_d, pvClr_f, pvClr_n, pvE_aload_n2, pvE_invokevirtual, aL_law_247, aL_law_150, pvE_icmp_eq, pvE_ireturn, pvE_if_ne, pvE_laload, pvAL, pvE_i2l, pvE_lcmp, pvE_if_eq, pvE_goto, bL_law_2078, uL_law_2078, bL_law_2114, uL_law_2114, bL_law_2131, uL_law_2131, bL_law_2760, uL_law_2760, pvMk_t, pvMk_f, pvMk_n, pvRecv_r, pvUp_nl, pvUp_same, pvUp_ap, pvSt_ap, pvX_c, pvX_ms, pvX_mn, pvE_nil, pvEn_i, pvEn_r, pvEn_l, pvEn_0, pvEn_s, pvRt, pvRv, pvTh, pvKc, pvGo, pvTgt, Int.toNat_natCast, false_and, and_false, true_and, and_true, if_true, if_false, reduceIte, reduceCtorEq, forall_const, false_or, or_false, true_or, or_true, ne_eq, not_true_eq_false, not_false_eq_true, implies_true, false_implies, Nat.reduceAdd, Nat.reduceSub, Nat.reduceMul, Nat.reduceEqDiff, Nat.reduceLT, Nat.reduceLeDiff, Int.reduceAdd, Int.reduceSub, Int.reduceMul, Int.reduceNeg, Int.reduceToNat, Int.reduceLE, Int.reduceLT, Int.reduceEq, Int.reduceNe, and_self]
  (repeat' first | with_reducible apply And.intro | with_reducible intro _)
  all_goals first
    | omega
    | (refine lc_deterministicRun h (fun k z1 R => ?_)
       simp only [pvE_aload_n1, pvLA_s, pvLd, pvE_aload_n0, pvE_iload, pvLI_s, pvE_iconst, pvE_iadd, pvE_iaload, pvAI, pvSh_0, pvSh_39, pvSh_58, pvSh_59, pvE_aload_n3, pvE_invokestatic (h0 := eL_245), pvC1_s, pvC2_s, pvAf_v, pvAf_x, pvPop, pvCs, pvCat, pvPush, aL_law_245, pvE_istore, pvS1, List.length_cons, List.length_nil, pvClr_i, pvClr_r, pvClr_l, pvClr_d, pvClr_f, pvClr_n, pvE_aload_n2, pvE_invokevirtual, aL_law_247, aL_law_150, pvE_icmp_eq, pvE_ireturn, pvE_if_ne, pvE_laload, pvAL, pvE_i2l, pvE_lcmp, pvE_if_eq, pvE_goto, bL_law_2078, uL_law_2078, bL_law_2114, uL_law_2114, bL_law_2131, uL_law_2131, bL_law_2760, uL_law_2760, pvMk_t, pvMk_f, pvMk_n, pvRecv_r, pvUp_nl, pvUp_same, pvUp_ap, pvSt_ap, pvX_c, pvX_ms, pvX_mn, pvE_nil, pvEn_i, pvEn_r, pvEn_l, pvEn_0, pvEn_s, pvRt, pvRv, pvTh, pvKc, pvGo, pvTgt, Int.toNat_natCast, false_and, and_false, true_and, and_true, if_true, if_false, reduceIte, reduceCtorEq, forall_const, false_or, or_false, true_or, or_true, ne_eq, not_true_eq_false, not_false_eq_true, implies_true, false_implies, Nat.reduceAdd, Nat.reduceSub, Nat.reduceMul, Nat.reduceEqDiff, Nat.reduceLT, Nat.reduceLeDiff, Int.reduceAdd, Int.reduceSub, Int.reduceMul, Int.reduceNeg, Int.reduceToNat, Int.reduceLE, Int.reduceLT, Int.reduceEq, Int.reduceNe, and_self]
       (repeat' first | with_reducible apply And.intro | with_reducible intro _)
       all_goals first
         | omega
         | (refine R _ (fun b z2 e8 eb hI => ?_)
            simp only [C_X10_thrown, e8, pvRt2, pvTh2, pvE_aload_n1, pvLA_s, pvLd, pvE_aload_n0, pvE_iload, pvLI_s, pvE_iconst, pvE_iadd, pvE_iaload, pvAI, pvSh_0, pvSh_39, pvSh_58, pvSh_59, pvE_aload_n3, pvE_invokestatic (h0 := eL_245), pvC1_s, pvC2_s, pvAf_v, pvAf_x, pvPop, pvCs, pvCat, pvPush, aL_law_245, pvE_istore, pvS1, List.length_cons, List.length_nil, pvClr_i, pvClr_r, pvClr_l, pvClr_d, pvClr_f, pvClr_n, pvE_aload_n2, pvE_invokevirtual, aL_law_247, aL_law_150, pvE_icmp_eq, pvE_ireturn, pvE_if_ne, pvE_laload, pvAL, pvE_i2l, pvE_lcmp, pvE_if_eq, pvE_goto, bL_law_2078, uL_law_2078, bL_law_2114, uL_law_2114, bL_law_2131, uL_law_2131, bL_law_2760, uL_law_2760, pvMk_t, pvMk_f, pvMk_n, pvRecv_r, pvUp_nl, pvUp_same, pvUp_ap, pvSt_ap, pvX_c, pvX_ms, pvX_mn, pvE_nil, pvEn_i, pvEn_r, pvEn_l, pvEn_0, pvEn_s, pvRt, pvRv, pvTh, pvKc, pvGo, pvTgt, Int.toNat_natCast, false_and, and_false, true_and, and_true, if_true, if_false, reduceIte, reduceCtorEq, forall_const, false_or, or_false, true_or, or_true, ne_eq, not_true_eq_false, not_false_eq_true, implies_true, false_implies, Nat.reduceAdd, Nat.reduceSub, Nat.reduceMul, Nat.reduceEqDiff, Nat.reduceLT, Nat.reduceLeDiff, Int.reduceAdd, Int.reduceSub, Int.reduceMul, Int.reduceNeg, Int.reduceToNat, Int.reduceLE, Int.reduceLT, Int.reduceEq, Int.reduceNe, and_self]
            (repeat' first | with_reducible apply And.intro | with_reducible intro _)
            all_goals first
              | omega
              | contradiction
              | (exact nx _ _ (by omega) hI)
              | (exact ef)
              | (rename k = 0 => k0; have eb1 := eb k0; exact eb1.2.1)
              | (rename k = 0 => k0; have eb1 := eb k0; exact eb1.2.2)
              | (rename k = 0 => k0; have eb1 := eb k0; rw [eb1.1]; first | exact eb1.2.1 | exact eb1.2.2)
              | (rename ¬ k ≠ 0 => k0; have eb1 := eb (by omega); first | exact eb1.2.1 | exact eb1.2.2 | (rw [eb1.1]; first | exact eb1.2.1 | exact eb1.2.2) | (rw [eb1]; split <;> omega))
              | (exfalso; have eb1 := eb (by omega); simp only [eb1] at *; rename ¬ (_ : Int) = 0 => q9; exact q9 (by rw [dcmp_s ef]; rfl))
              | (exfalso; have eb1 := eb (by omega); simp only [eb1] at *; simp_all; done)
              | (exfalso; have eb1 := (eb (by omega)).1; simp only [eb1] at *; simp_all; done)))
set_option maxRecDepth 100000 in
set_option maxHeartbeats 4000000 in
theorem lw_30 {sc : Nat × (Nat → Int)} {Gm : Nat} {Q : pvO → pvM → Prop} {SW : Nat → pvL → pvM → Nat → Prop} (hc : pvCl2 sc Gm fL aL_law kL eL (some .boolean) bL_law uL_law Q SW) {z : pvM} {i : Int} {g : Nat} (h : lwI z) (hi : 0 ≤ i ∧ i + 5 ≤ sc.1 ∧ (sc.1 : Int) ≤ 2147483647) (hg : g + 2 ≤ Gm)
    (nx : ∀ (z' : pvM) (g' : Nat), g' ≤ g + 1 → lwI z' → SW 2760 (lwL i) z' g') : SW 2134 (lwL i) z g := by
  refine hc 20 _ _ _ _ fun _ _ => ?_
  clear hc
  simp only [pvSt2]
  simp only [pvE_aload_n1, pvLA_s, pvLd, pvE_aload_n0, pvE_iload, pvLI_s, pvE_iconst, pvE_iadd, pvE_iaload, pvAI, pvSh_0, pvSh_39, pvSh_58, pvSh_59, pvE_aload_n3, pvE_invokestatic (h0 := eL_248), pvC1_s, pvC2_s, pvAf_v, pvAf_x, pvPop, pvCs, pvCat, pvPush, aL_law_248, pvE_istore, pvS1, List.length_cons, List.length_nil, pvClr_i, pvClr_r, pvClr_l, pvClr_d, pvClr_f, pvClr_n, pvE_aload_n2, pvE_invokevirtual, aL_law_250, aL_law_150, pvE_icmp_eq, pvE_ireturn, pvE_if_ne, pvE_laload, pvAL, pvE_if_eq, pvE_lconst1, pvE_goto, pvE_lconst0, pvE_lcmp, bL_law_2134, uL_law_2134, bL_law_2170, uL_law_2170, bL_law_2187, uL_law_2187, bL_law_2188, uL_law_2188, bL_law_2194, uL_law_2194, bL_law_2760, uL_law_2760, pvMk_t, pvMk_f, pvMk_n, pvRecv_r, pvUp_nl, pvUp_same, pvUp_ap, pvSt_ap, pvX_c, pvX_ms, pvX_mn, pvE_nil, pvEn_i, pvEn_r, pvEn_l, pvEn_0, pvEn_s, pvRt, pvRv, pvTh, pvKc, pvGo, pvTgt, Int.toNat_natCast, false_and, and_false, true_and, and_true, if_true, if_false, reduceIte, reduceCtorEq, forall_const, false_or, or_false, true_or, or_true, ne_eq, not_true_eq_false, not_false_eq_true, implies_true, false_implies, Nat.reduceAdd, Nat.reduceSub, Nat.reduceMul, Nat.reduceEqDiff, Nat.reduceLT, Nat.reduceLeDiff, Int.reduceAdd, Int.reduceSub, Int.reduceMul, Int.reduceNeg, Int.reduceToNat, Int.reduceLE, Int.reduceLT, Int.reduceEq, Int.reduceNe, and_self]
  (repeat' first | with_reducible apply And.intro | with_reducible intro _)
  all_goals first
    | omega
    | (refine lc_isDeterministic h (fun k z1 R => ?_)
       simp only [pvE_aload_n1, pvLA_s, pvLd, pvE_aload_n0, pvE_iload, pvLI_s, pvE_iconst, pvE_iadd, pvE_iaload, pvAI, pvSh_0, pvSh_39, pvSh_58, pvSh_59, pvE_aload_n3, pvE_invokestatic (h0 := eL_248), pvC1_s, pvC2_s, pvAf_v, pvAf_x, pvPop, pvCs, pvCat, pvPush, aL_law_248, pvE_istore, pvS1, List.length_cons, List.length_nil, pvClr_i, pvClr_r, pvClr_l, pvClr_d, pvClr_f, pvClr_n, pvE_aload_n2, pvE_invokevirtual, aL_law_250, aL_law_150, pvE_icmp_eq, pvE_ireturn, pvE_if_ne, pvE_laload, pvAL, pvE_if_eq, pvE_lconst1, pvE_goto, pvE_lconst0, pvE_lcmp, bL_law_2134, uL_law_2134, bL_law_2170, uL_law_2170, bL_law_2187, uL_law_2187, bL_law_2188, uL_law_2188, bL_law_2194, uL_law_2194, bL_law_2760, uL_law_2760, pvMk_t, pvMk_f, pvMk_n, pvRecv_r, pvUp_nl, pvUp_same, pvUp_ap, pvSt_ap, pvX_c, pvX_ms, pvX_mn, pvE_nil, pvEn_i, pvEn_r, pvEn_l, pvEn_0, pvEn_s, pvRt, pvRv, pvTh, pvKc, pvGo, pvTgt, Int.toNat_natCast, false_and, and_false, true_and, and_true, if_true, if_false, reduceIte, reduceCtorEq, forall_const, false_or, or_false, true_or, or_true, ne_eq, not_true_eq_false, not_false_eq_true, implies_true, false_implies, Nat.reduceAdd, Nat.reduceSub, Nat.reduceMul, Nat.reduceEqDiff, Nat.reduceLT, Nat.reduceLeDiff, Int.reduceAdd, Int.reduceSub, Int.reduceMul, Int.reduceNeg, Int.reduceToNat, Int.reduceLE, Int.reduceLT, Int.reduceEq, Int.reduceNe, and_self]
       (repeat' first | with_reducible apply And.intro | with_reducible intro _)
       all_goals first
         | omega
         | (refine R _ (fun b z2 e8 eb hI => ?_)
            simp only [C_X10_thrown, e8, pvRt2, pvTh2, pvE_aload_n1, pvLA_s, pvLd, pvE_aload_n0, pvE_iload, pvLI_s, pvE_iconst, pvE_iadd, pvE_iaload, pvAI, pvSh_0, pvSh_39, pvSh_58, pvSh_59, pvE_aload_n3, pvE_invokestatic (h0 := eL_248), pvC1_s, pvC2_s, pvAf_v, pvAf_x, pvPop, pvCs, pvCat, pvPush, aL_law_248, pvE_istore, pvS1, List.length_cons, List.length_nil, pvClr_i, pvClr_r, pvClr_l, pvClr_d, pvClr_f, pvClr_n, pvE_aload_n2, pvE_invokevirtual, aL_law_250, aL_law_150, pvE_icmp_eq, pvE_ireturn, pvE_if_ne, pvE_laload, pvAL, pvE_if_eq, pvE_lconst1, pvE_goto, pvE_lconst0, pvE_lcmp, bL_law_2134, uL_law_2134, bL_law_2170, uL_law_2170, bL_law_2187, uL_law_2187, bL_law_2188, uL_law_2188, bL_law_2194, uL_law_2194, bL_law_2760, uL_law_2760, pvMk_t, pvMk_f, pvMk_n, pvRecv_r, pvUp_nl, pvUp_same, pvUp_ap, pvSt_ap, pvX_c, pvX_ms, pvX_mn, pvE_nil, pvEn_i, pvEn_r, pvEn_l, pvEn_0, pvEn_s, pvRt, pvRv, pvTh, pvKc, pvGo, pvTgt, Int.toNat_natCast, false_and, and_false, true_and, and_true, if_true, if_false, reduceIte, reduceCtorEq, forall_const, false_or, or_false, true_or, or_true, ne_eq, not_true_eq_false, not_false_eq_true, implies_true, false_implies, Nat.reduceAdd, Nat.reduceSub, Nat.reduceMul, Nat.reduceEqDiff, Nat.reduceLT, Nat.reduceLeDiff, Int.reduceAdd, Int.reduceSub, Int.reduceMul, Int.reduceNeg, Int.reduceToNat, Int.reduceLE, Int.reduceLT, Int.reduceEq, Int.reduceNe, and_self]
            (repeat' first | with_reducible apply And.intro | with_reducible intro _)
            all_goals first
              | omega
              | contradiction
              | (exact nx _ _ (by omega) hI)
              | (exact ef)
              | (rename k = 0 => k0; have eb1 := eb k0; exact eb1.2.1)
              | (rename k = 0 => k0; have eb1 := eb k0; exact eb1.2.2)
              | (rename k = 0 => k0; have eb1 := eb k0; rw [eb1.1]; first | exact eb1.2.1 | exact eb1.2.2)
              | (rename ¬ k ≠ 0 => k0; have eb1 := eb (by omega); first | exact eb1.2.1 | exact eb1.2.2 | (rw [eb1.1]; first | exact eb1.2.1 | exact eb1.2.2) | (rw [eb1]; split <;> omega))
              | (exfalso; have eb1 := eb (by omega); simp only [eb1] at *; rename ¬ (_ : Int) = 0 => q9; exact q9 (by rw [dcmp_s ef]; rfl))
              | (exfalso; have eb1 := eb (by omega); simp only [eb1] at *; simp_all; done)
              | (exfalso; have eb1 := (eb (by omega)).1; simp only [eb1] at *; simp_all; done)))
set_option maxRecDepth 100000 in
set_option maxHeartbeats 4000000 in
theorem lw_31 {sc : Nat × (Nat → Int)} {Gm : Nat} {Q : pvO → pvM → Prop} {SW : Nat → pvL → pvM → Nat → Prop} (hc : pvCl2 sc Gm fL aL_law kL eL (some .boolean) bL_law uL_law Q SW) {z : pvM} {i : Int} {g : Nat} (h : lwI z) (hi : 0 ≤ i ∧ i + 5 ≤ sc.1 ∧ (sc.1 : Int) ≤ 2147483647) (hg : g + 2 ≤ Gm)
    (nx : ∀ (z' : pvM) (g' : Nat), g' ≤ g + 1 → lwI z' → SW 2760 (lwL i) z' g') : SW 2197 (lwL i) z g := by
  refine hc 20 _ _ _ _ fun _ _ => ?_
  clear hc
  simp only [pvSt2]
  simp only [pvE_aload_n1, pvLA_s, pvLd, pvE_aload_n0, pvE_iload, pvLI_s, pvE_iconst, pvE_iadd, pvE_iaload, pvAI, pvSh_0, pvSh_39, pvSh_58, pvSh_59, pvE_aload_n3, pvE_invokestatic (h0 := eL_251), pvC1_s, pvC2_s, pvAf_v, pvAf_x, pvPop, pvCs, pvCat, pvPush, aL_law_251, pvE_istore, pvS1, List.length_cons, List.length_nil, pvClr_i, pvClr_r, pvClr_l, pvClr_d, pvClr_f, pvClr_n, pvE_aload_n2, pvE_invokevirtual, aL_law_253, aL_law_150, pvE_icmp_eq, pvE_ireturn, pvE_if_ne, pvE_laload, pvAL, pvE_if_eq, pvE_lconst1, pvE_goto, pvE_lconst0, pvE_lcmp, bL_law_2197, uL_law_2197, bL_law_2233, uL_law_2233, bL_law_2250, uL_law_2250, bL_law_2251, uL_law_2251, bL_law_2257, uL_law_2257, bL_law_2760, uL_law_2760, pvMk_t, pvMk_f, pvMk_n, pvRecv_r, pvUp_nl, pvUp_same, pvUp_ap, pvSt_ap, pvX_c, pvX_ms, pvX_mn, pvE_nil, pvEn_i, pvEn_r, pvEn_l, pvEn_0, pvEn_s, pvRt, pvRv, pvTh, pvKc, pvGo, pvTgt, Int.toNat_natCast, false_and, and_false, true_and, and_true, if_true, if_false, reduceIte, reduceCtorEq, forall_const, false_or, or_false, true_or, or_true, ne_eq, not_true_eq_false, not_false_eq_true, implies_true, false_implies, Nat.reduceAdd, Nat.reduceSub, Nat.reduceMul, Nat.reduceEqDiff, Nat.reduceLT, Nat.reduceLeDiff, Int.reduceAdd, Int.reduceSub, Int.reduceMul, Int.reduceNeg, Int.reduceToNat, Int.reduceLE, Int.reduceLT, Int.reduceEq, Int.reduceNe, and_self]
  (repeat' first | with_reducible apply And.intro | with_reducible intro _)
  all_goals first
    | omega
    | (refine lc_isEmpty h (fun k z1 R => ?_)
       simp only [pvE_aload_n1, pvLA_s, pvLd, pvE_aload_n0, pvE_iload, pvLI_s, pvE_iconst, pvE_iadd, pvE_iaload, pvAI, pvSh_0, pvSh_39, pvSh_58, pvSh_59, pvE_aload_n3, pvE_invokestatic (h0 := eL_251), pvC1_s, pvC2_s, pvAf_v, pvAf_x, pvPop, pvCs, pvCat, pvPush, aL_law_251, pvE_istore, pvS1, List.length_cons, List.length_nil, pvClr_i, pvClr_r, pvClr_l, pvClr_d, pvClr_f, pvClr_n, pvE_aload_n2, pvE_invokevirtual, aL_law_253, aL_law_150, pvE_icmp_eq, pvE_ireturn, pvE_if_ne, pvE_laload, pvAL, pvE_if_eq, pvE_lconst1, pvE_goto, pvE_lconst0, pvE_lcmp, bL_law_2197, uL_law_2197, bL_law_2233, uL_law_2233, bL_law_2250, uL_law_2250, bL_law_2251, uL_law_2251, bL_law_2257, uL_law_2257, bL_law_2760, uL_law_2760, pvMk_t, pvMk_f, pvMk_n, pvRecv_r, pvUp_nl, pvUp_same, pvUp_ap, pvSt_ap, pvX_c, pvX_ms, pvX_mn, pvE_nil, pvEn_i, pvEn_r, pvEn_l, pvEn_0, pvEn_s, pvRt, pvRv, pvTh, pvKc, pvGo, pvTgt, Int.toNat_natCast, false_and, and_false, true_and, and_true, if_true, if_false, reduceIte, reduceCtorEq, forall_const, false_or, or_false, true_or, or_true, ne_eq, not_true_eq_false, not_false_eq_true, implies_true, false_implies, Nat.reduceAdd, Nat.reduceSub, Nat.reduceMul, Nat.reduceEqDiff, Nat.reduceLT, Nat.reduceLeDiff, Int.reduceAdd, Int.reduceSub, Int.reduceMul, Int.reduceNeg, Int.reduceToNat, Int.reduceLE, Int.reduceLT, Int.reduceEq, Int.reduceNe, and_self]
       (repeat' first | with_reducible apply And.intro | with_reducible intro _)
       all_goals first
         | omega
         | (refine R _ (fun b z2 e8 eb hI => ?_)
            simp only [C_X10_thrown, e8, pvRt2, pvTh2, pvE_aload_n1, pvLA_s, pvLd, pvE_aload_n0, pvE_iload, pvLI_s, pvE_iconst, pvE_iadd, pvE_iaload, pvAI, pvSh_0, pvSh_39, pvSh_58, pvSh_59, pvE_aload_n3, pvE_invokestatic (h0 := eL_251), pvC1_s, pvC2_s, pvAf_v, pvAf_x, pvPop, pvCs, pvCat, pvPush, aL_law_251, pvE_istore, pvS1, List.length_cons, List.length_nil, pvClr_i, pvClr_r, pvClr_l, pvClr_d, pvClr_f, pvClr_n, pvE_aload_n2, pvE_invokevirtual, aL_law_253, aL_law_150, pvE_icmp_eq, pvE_ireturn, pvE_if_ne, pvE_laload, pvAL, pvE_if_eq, pvE_lconst1, pvE_goto, pvE_lconst0, pvE_lcmp, bL_law_2197, uL_law_2197, bL_law_2233, uL_law_2233, bL_law_2250, uL_law_2250, bL_law_2251, uL_law_2251, bL_law_2257, uL_law_2257, bL_law_2760, uL_law_2760, pvMk_t, pvMk_f, pvMk_n, pvRecv_r, pvUp_nl, pvUp_same, pvUp_ap, pvSt_ap, pvX_c, pvX_ms, pvX_mn, pvE_nil, pvEn_i, pvEn_r, pvEn_l, pvEn_0, pvEn_s, pvRt, pvRv, pvTh, pvKc, pvGo, pvTgt, Int.toNat_natCast, false_and, and_false, true_and, and_true, if_true, if_false, reduceIte, reduceCtorEq, forall_const, false_or, or_false, true_or, or_true, ne_eq, not_true_eq_false, not_false_eq_true, implies_true, false_implies, Nat.reduceAdd, Nat.reduceSub, Nat.reduceMul, Nat.reduceEqDiff, Nat.reduceLT, Nat.reduceLeDiff, Int.reduceAdd, Int.reduceSub, Int.reduceMul, Int.reduceNeg, Int.reduceToNat, Int.reduceLE, Int.reduceLT, Int.reduceEq, Int.reduceNe, and_self]
            (repeat' first | with_reducible apply And.intro | with_reducible intro _)
            all_goals first
              | omega
              | contradiction
              | (exact nx _ _ (by omega) hI)
              | (exact ef)
              | (rename k = 0 => k0; have eb1 := eb k0; exact eb1.2.1)
              | (rename k = 0 => k0; have eb1 := eb k0; exact eb1.2.2)
              | (rename k = 0 => k0; have eb1 := eb k0; rw [eb1.1]; first | exact eb1.2.1 | exact eb1.2.2)
              | (rename ¬ k ≠ 0 => k0; have eb1 := eb (by omega); first | exact eb1.2.1 | exact eb1.2.2 | (rw [eb1.1]; first | exact eb1.2.1 | exact eb1.2.2) | (rw [eb1]; split <;> omega))
              | (exfalso; have eb1 := eb (by omega); simp only [eb1] at *; rename ¬ (_ : Int) = 0 => q9; exact q9 (by rw [dcmp_s ef]; rfl))
              | (exfalso; have eb1 := eb (by omega); simp only [eb1] at *; simp_all; done)
              | (exfalso; have eb1 := (eb (by omega)).1; simp only [eb1] at *; simp_all; done)))
set_option maxRecDepth 100000 in
set_option maxHeartbeats 4000000 in
theorem lw_32 {sc : Nat × (Nat → Int)} {Gm : Nat} {Q : pvO → pvM → Prop} {SW : Nat → pvL → pvM → Nat → Prop} (hc : pvCl2 sc Gm fL aL_law kL eL (some .boolean) bL_law uL_law Q SW) {z : pvM} {i : Int} {g : Nat} (h : lwI z) (hi : 0 ≤ i ∧ i + 5 ≤ sc.1 ∧ (sc.1 : Int) ≤ 2147483647) (hg : g + 2 ≤ Gm)
    (nx : ∀ (z' : pvM) (g' : Nat), g' ≤ g + 1 → lwI z' → SW 2760 (lwL i) z' g') : SW 2260 (lwL i) z g := by
  refine hc 20 _ _ _ _ fun _ _ => ?_
  clear hc
  simp only [pvSt2]
  simp only [pvE_aload_n1, pvLA_s, pvLd, pvE_aload_n0, pvE_iload, pvLI_s, pvE_iconst, pvE_iadd, pvE_iaload, pvAI, pvSh_0, pvSh_39, pvSh_58, pvSh_59, pvE_aload_n3, pvE_invokestatic (h0 := eL_254), pvC1_s, pvC2_s, pvAf_v, pvAf_x, pvPop, pvCs, pvCat, pvPush, aL_law_254, pvE_istore, pvS1, List.length_cons, List.length_nil, pvClr_i, pvClr_r, pvClr_l, pvClr_d, pvClr_f, pvClr_n, pvE_aload_n2, pvE_invokevirtual, aL_law_256, aL_law_150, pvE_icmp_eq, pvE_ireturn, pvE_if_ne, pvE_laload, pvAL, pvE_i2l, pvE_lcmp, pvE_if_eq, pvE_goto, bL_law_2260, uL_law_2260, bL_law_2296, uL_law_2296, bL_law_2313, uL_law_2313, bL_law_2760, uL_law_2760, pvMk_t, pvMk_f, pvMk_n, pvRecv_r, pvUp_nl, pvUp_same, pvUp_ap, pvSt_ap, pvX_c, pvX_ms, pvX_mn, pvE_nil, pvEn_i, pvEn_r, pvEn_l, pvEn_0, pvEn_s, pvRt, pvRv, pvTh, pvKc, pvGo, pvTgt, Int.toNat_natCast, false_and, and_false, true_and, and_true, if_true, if_false, reduceIte, reduceCtorEq, forall_const, false_or, or_false, true_or, or_true, ne_eq, not_true_eq_false, not_false_eq_true, implies_true, false_implies, Nat.reduceAdd, Nat.reduceSub, Nat.reduceMul, Nat.reduceEqDiff, Nat.reduceLT, Nat.reduceLeDiff, Int.reduceAdd, Int.reduceSub, Int.reduceMul, Int.reduceNeg, Int.reduceToNat, Int.reduceLE, Int.reduceLT, Int.reduceEq, Int.reduceNe, and_self]
  (repeat' first | with_reducible apply And.intro | with_reducible intro _)
  all_goals first
    | omega
    | (refine lc_takeWitness h (fun k z1 R => ?_)
       simp only [pvE_aload_n1, pvLA_s, pvLd, pvE_aload_n0, pvE_iload, pvLI_s, pvE_iconst, pvE_iadd, pvE_iaload, pvAI, pvSh_0, pvSh_39, pvSh_58, pvSh_59, pvE_aload_n3, pvE_invokestatic (h0 := eL_254), pvC1_s, pvC2_s, pvAf_v, pvAf_x, pvPop, pvCs, pvCat, pvPush, aL_law_254, pvE_istore, pvS1, List.length_cons, List.length_nil, pvClr_i, pvClr_r, pvClr_l, pvClr_d, pvClr_f, pvClr_n, pvE_aload_n2, pvE_invokevirtual, aL_law_256, aL_law_150, pvE_icmp_eq, pvE_ireturn, pvE_if_ne, pvE_laload, pvAL, pvE_i2l, pvE_lcmp, pvE_if_eq, pvE_goto, bL_law_2260, uL_law_2260, bL_law_2296, uL_law_2296, bL_law_2313, uL_law_2313, bL_law_2760, uL_law_2760, pvMk_t, pvMk_f, pvMk_n, pvRecv_r, pvUp_nl, pvUp_same, pvUp_ap, pvSt_ap, pvX_c, pvX_ms, pvX_mn, pvE_nil, pvEn_i, pvEn_r, pvEn_l, pvEn_0, pvEn_s, pvRt, pvRv, pvTh, pvKc, pvGo, pvTgt, Int.toNat_natCast, false_and, and_false, true_and, and_true, if_true, if_false, reduceIte, reduceCtorEq, forall_const, false_or, or_false, true_or, or_true, ne_eq, not_true_eq_false, not_false_eq_true, implies_true, false_implies, Nat.reduceAdd, Nat.reduceSub, Nat.reduceMul, Nat.reduceEqDiff, Nat.reduceLT, Nat.reduceLeDiff, Int.reduceAdd, Int.reduceSub, Int.reduceMul, Int.reduceNeg, Int.reduceToNat, Int.reduceLE, Int.reduceLT, Int.reduceEq, Int.reduceNe, and_self]
       (repeat' first | with_reducible apply And.intro | with_reducible intro _)
       all_goals first
         | omega
         | (refine R _ (fun b z2 e8 eb hI => ?_)
            simp only [C_X10_thrown, e8, pvRt2, pvTh2, pvE_aload_n1, pvLA_s, pvLd, pvE_aload_n0, pvE_iload, pvLI_s, pvE_iconst, pvE_iadd, pvE_iaload, pvAI, pvSh_0, pvSh_39, pvSh_58, pvSh_59, pvE_aload_n3, pvE_invokestatic (h0 := eL_254), pvC1_s, pvC2_s, pvAf_v, pvAf_x, pvPop, pvCs, pvCat, pvPush, aL_law_254, pvE_istore, pvS1, List.length_cons, List.length_nil, pvClr_i, pvClr_r, pvClr_l, pvClr_d, pvClr_f, pvClr_n, pvE_aload_n2, pvE_invokevirtual, aL_law_256, aL_law_150, pvE_icmp_eq, pvE_ireturn, pvE_if_ne, pvE_laload, pvAL, pvE_i2l, pvE_lcmp, pvE_if_eq, pvE_goto, bL_law_2260, uL_law_2260, bL_law_2296, uL_law_2296, bL_law_2313, uL_law_2313, bL_law_2760, uL_law_2760, pvMk_t, pvMk_f, pvMk_n, pvRecv_r, pvUp_nl, pvUp_same, pvUp_ap, pvSt_ap, pvX_c, pvX_ms, pvX_mn, pvE_nil, pvEn_i, pvEn_r, pvEn_l, pvEn_0, pvEn_s, pvRt, pvRv, pvTh, pvKc, pvGo, pvTgt, Int.toNat_natCast, false_and, and_false, true_and, and_true, if_true, if_false, reduceIte, reduceCtorEq, forall_const, false_or, or_false, true_or, or_true, ne_eq, not_true_eq_false, not_false_eq_true, implies_true, false_implies, Nat.reduceAdd, Nat.reduceSub, Nat.reduceMul, Nat.reduceEqDiff, Nat.reduceLT, Nat.reduceLeDiff, Int.reduceAdd, Int.reduceSub, Int.reduceMul, Int.reduceNeg, Int.reduceToNat, Int.reduceLE, Int.reduceLT, Int.reduceEq, Int.reduceNe, and_self]
            (repeat' first | with_reducible apply And.intro | with_reducible intro _)
            all_goals first
              | omega
              | contradiction
              | (exact nx _ _ (by omega) hI)
              | (exact ef)
              | (rename k = 0 => k0; have eb1 := eb k0; exact eb1.2.1)
              | (rename k = 0 => k0; have eb1 := eb k0; exact eb1.2.2)
              | (rename k = 0 => k0; have eb1 := eb k0; rw [eb1.1]; first | exact eb1.2.1 | exact eb1.2.2)
              | (rename ¬ k ≠ 0 => k0; have eb1 := eb (by omega); first | exact eb1.2.1 | exact eb1.2.2 | (rw [eb1.1]; first | exact eb1.2.1 | exact eb1.2.2) | (rw [eb1]; split <;> omega))
              | (exfalso; have eb1 := eb (by omega); simp only [eb1] at *; rename ¬ (_ : Int) = 0 => q9; exact q9 (by rw [dcmp_s ef]; rfl))
              | (exfalso; have eb1 := eb (by omega); simp only [eb1] at *; simp_all; done)
              | (exfalso; have eb1 := (eb (by omega)).1; simp only [eb1] at *; simp_all; done)))
set_option maxRecDepth 100000 in
set_option maxHeartbeats 4000000 in
theorem lw_33 {sc : Nat × (Nat → Int)} {Gm : Nat} {Q : pvO → pvM → Prop} {SW : Nat → pvL → pvM → Nat → Prop} (hc : pvCl2 sc Gm fL aL_law kL eL (some .boolean) bL_law uL_law Q SW) {z : pvM} {i : Int} {g : Nat} (h : lwI z) (hi : 0 ≤ i ∧ i + 5 ≤ sc.1 ∧ (sc.1 : Int) ≤ 2147483647) (hg : g + 2 ≤ Gm)
    (nx : ∀ (z' : pvM) (g' : Nat), g' ≤ g + 1 → lwI z' → SW 2760 (lwL i) z' g') : SW 2316 (lwL i) z g := by
  refine hc 20 _ _ _ _ fun _ _ => ?_
  clear hc
  simp only [pvSt2]
  simp only [pvE_aload_n1, pvLA_s, pvLd, pvE_aload_n0, pvE_iload, pvLI_s, pvE_iconst, pvE_iadd, pvE_iaload, pvAI, pvSh_0, pvSh_39, pvSh_58, pvSh_59, pvE_aload_n3, pvE_invokestatic (h0 := eL_257), pvC1_s, pvC2_s, pvAf_v, pvAf_x, pvPop, pvCs, pvCat, pvPush, aL_law_257, pvE_istore, pvS1, List.length_cons, List.length_nil, pvClr_i, pvClr_r, pvClr_l, pvClr_d, pvClr_f, pvClr_n, pvE_aload_n2, pvE_invokevirtual, aL_law_259, aL_law_150, pvE_icmp_eq, pvE_ireturn, pvE_if_ne, pvE_laload, pvAL, pvE_i2l, pvE_lcmp, pvE_if_eq, pvE_goto, bL_law_2316, uL_law_2316, bL_law_2352, uL_law_2352, bL_law_2369, uL_law_2369, bL_law_2760, uL_law_2760, pvMk_t, pvMk_f, pvMk_n, pvRecv_r, pvUp_nl, pvUp_same, pvUp_ap, pvSt_ap, pvX_c, pvX_ms, pvX_mn, pvE_nil, pvEn_i, pvEn_r, pvEn_l, pvEn_0, pvEn_s, pvRt, pvRv, pvTh, pvKc, pvGo, pvTgt, Int.toNat_natCast, false_and, and_false, true_and, and_true, if_true, if_false, reduceIte, reduceCtorEq, forall_const, false_or, or_false, true_or, or_true, ne_eq, not_true_eq_false, not_false_eq_true, implies_true, false_implies, Nat.reduceAdd, Nat.reduceSub, Nat.reduceMul, Nat.reduceEqDiff, Nat.reduceLT, Nat.reduceLeDiff, Int.reduceAdd, Int.reduceSub, Int.reduceMul, Int.reduceNeg, Int.reduceToNat, Int.reduceLE, Int.reduceLT, Int.reduceEq, Int.reduceNe, and_self]
  (repeat' first | with_reducible apply And.intro | with_reducible intro _)
  all_goals first
    | omega
    | (refine lc_takeDifference h (fun k z1 R => ?_)
       simp only [pvE_aload_n1, pvLA_s, pvLd, pvE_aload_n0, pvE_iload, pvLI_s, pvE_iconst, pvE_iadd, pvE_iaload, pvAI, pvSh_0, pvSh_39, pvSh_58, pvSh_59, pvE_aload_n3, pvE_invokestatic (h0 := eL_257), pvC1_s, pvC2_s, pvAf_v, pvAf_x, pvPop, pvCs, pvCat, pvPush, aL_law_257, pvE_istore, pvS1, List.length_cons, List.length_nil, pvClr_i, pvClr_r, pvClr_l, pvClr_d, pvClr_f, pvClr_n, pvE_aload_n2, pvE_invokevirtual, aL_law_259, aL_law_150, pvE_icmp_eq, pvE_ireturn, pvE_if_ne, pvE_laload, pvAL, pvE_i2l, pvE_lcmp, pvE_if_eq, pvE_goto, bL_law_2316, uL_law_2316, bL_law_2352, uL_law_2352, bL_law_2369, uL_law_2369, bL_law_2760, uL_law_2760, pvMk_t, pvMk_f, pvMk_n, pvRecv_r, pvUp_nl, pvUp_same, pvUp_ap, pvSt_ap, pvX_c, pvX_ms, pvX_mn, pvE_nil, pvEn_i, pvEn_r, pvEn_l, pvEn_0, pvEn_s, pvRt, pvRv, pvTh, pvKc, pvGo, pvTgt, Int.toNat_natCast, false_and, and_false, true_and, and_true, if_true, if_false, reduceIte, reduceCtorEq, forall_const, false_or, or_false, true_or, or_true, ne_eq, not_true_eq_false, not_false_eq_true, implies_true, false_implies, Nat.reduceAdd, Nat.reduceSub, Nat.reduceMul, Nat.reduceEqDiff, Nat.reduceLT, Nat.reduceLeDiff, Int.reduceAdd, Int.reduceSub, Int.reduceMul, Int.reduceNeg, Int.reduceToNat, Int.reduceLE, Int.reduceLT, Int.reduceEq, Int.reduceNe, and_self]
       (repeat' first | with_reducible apply And.intro | with_reducible intro _)
       all_goals first
         | omega
         | (refine R _ (fun b z2 e8 eb hI => ?_)
            simp only [C_X10_thrown, e8, pvRt2, pvTh2, pvE_aload_n1, pvLA_s, pvLd, pvE_aload_n0, pvE_iload, pvLI_s, pvE_iconst, pvE_iadd, pvE_iaload, pvAI, pvSh_0, pvSh_39, pvSh_58, pvSh_59, pvE_aload_n3, pvE_invokestatic (h0 := eL_257), pvC1_s, pvC2_s, pvAf_v, pvAf_x, pvPop, pvCs, pvCat, pvPush, aL_law_257, pvE_istore, pvS1, List.length_cons, List.length_nil, pvClr_i, pvClr_r, pvClr_l, pvClr_d, pvClr_f, pvClr_n, pvE_aload_n2, pvE_invokevirtual, aL_law_259, aL_law_150, pvE_icmp_eq, pvE_ireturn, pvE_if_ne, pvE_laload, pvAL, pvE_i2l, pvE_lcmp, pvE_if_eq, pvE_goto, bL_law_2316, uL_law_2316, bL_law_2352, uL_law_2352, bL_law_2369, uL_law_2369, bL_law_2760, uL_law_2760, pvMk_t, pvMk_f, pvMk_n, pvRecv_r, pvUp_nl, pvUp_same, pvUp_ap, pvSt_ap, pvX_c, pvX_ms, pvX_mn, pvE_nil, pvEn_i, pvEn_r, pvEn_l, pvEn_0, pvEn_s, pvRt, pvRv, pvTh, pvKc, pvGo, pvTgt, Int.toNat_natCast, false_and, and_false, true_and, and_true, if_true, if_false, reduceIte, reduceCtorEq, forall_const, false_or, or_false, true_or, or_true, ne_eq, not_true_eq_false, not_false_eq_true, implies_true, false_implies, Nat.reduceAdd, Nat.reduceSub, Nat.reduceMul, Nat.reduceEqDiff, Nat.reduceLT, Nat.reduceLeDiff, Int.reduceAdd, Int.reduceSub, Int.reduceMul, Int.reduceNeg, Int.reduceToNat, Int.reduceLE, Int.reduceLT, Int.reduceEq, Int.reduceNe, and_self]
            (repeat' first | with_reducible apply And.intro | with_reducible intro _)
            all_goals first
              | omega
              | contradiction
              | (exact nx _ _ (by omega) hI)
              | (exact ef)
              | (rename k = 0 => k0; have eb1 := eb k0; exact eb1.2.1)
              | (rename k = 0 => k0; have eb1 := eb k0; exact eb1.2.2)
              | (rename k = 0 => k0; have eb1 := eb k0; rw [eb1.1]; first | exact eb1.2.1 | exact eb1.2.2)
              | (rename ¬ k ≠ 0 => k0; have eb1 := eb (by omega); first | exact eb1.2.1 | exact eb1.2.2 | (rw [eb1.1]; first | exact eb1.2.1 | exact eb1.2.2) | (rw [eb1]; split <;> omega))
              | (exfalso; have eb1 := eb (by omega); simp only [eb1] at *; rename ¬ (_ : Int) = 0 => q9; exact q9 (by rw [dcmp_s ef]; rfl))
              | (exfalso; have eb1 := eb (by omega); simp only [eb1] at *; simp_all; done)
              | (exfalso; have eb1 := (eb (by omega)).1; simp only [eb1] at *; simp_all; done)))
set_option maxRecDepth 100000 in
set_option maxHeartbeats 4000000 in
theorem lw_34 {sc : Nat × (Nat → Int)} {Gm : Nat} {Q : pvO → pvM → Prop} {SW : Nat → pvL → pvM → Nat → Prop} (hc : pvCl2 sc Gm fL aL_law kL eL (some .boolean) bL_law uL_law Q SW) {z : pvM} {i : Int} {g : Nat} (h : lwI z) (hi : 0 ≤ i ∧ i + 5 ≤ sc.1 ∧ (sc.1 : Int) ≤ 2147483647) (hg : g + 2 ≤ Gm)
    (nx : ∀ (z' : pvM) (g' : Nat), g' ≤ g + 1 → lwI z' → SW 2760 (lwL i) z' g') : SW 2372 (lwL i) z g := by
  refine hc 20 _ _ _ _ fun _ _ => ?_
  clear hc
  simp only [pvSt2]
  simp only [pvE_aload_n1, pvLA_s, pvLd, pvE_aload_n0, pvE_iload, pvLI_s, pvE_iconst, pvE_iadd, pvE_iaload, pvAI, pvSh_0, pvSh_39, pvSh_58, pvSh_59, pvE_aload_n3, pvE_invokestatic (h0 := eL_260), pvC1_s, pvC2_s, pvAf_v, pvAf_x, pvPop, pvCs, pvCat, pvPush, aL_law_260, pvE_istore, pvS1, List.length_cons, List.length_nil, pvClr_i, pvClr_r, pvClr_l, pvClr_d, pvClr_f, pvClr_n, pvE_aload_n2, pvE_invokevirtual, aL_law_262, aL_law_150, pvE_icmp_eq, pvE_ireturn, pvE_if_ne, pvE_laload, pvAL, pvE_if_eq, pvE_lconst1, pvE_goto, pvE_lconst0, pvE_lcmp, bL_law_2372, uL_law_2372, bL_law_2408, uL_law_2408, bL_law_2425, uL_law_2425, bL_law_2426, uL_law_2426, bL_law_2432, uL_law_2432, bL_law_2760, uL_law_2760, pvMk_t, pvMk_f, pvMk_n, pvRecv_r, pvUp_nl, pvUp_same, pvUp_ap, pvSt_ap, pvX_c, pvX_ms, pvX_mn, pvE_nil, pvEn_i, pvEn_r, pvEn_l, pvEn_0, pvEn_s, pvRt, pvRv, pvTh, pvKc, pvGo, pvTgt, Int.toNat_natCast, false_and, and_false, true_and, and_true, if_true, if_false, reduceIte, reduceCtorEq, forall_const, false_or, or_false, true_or, or_true, ne_eq, not_true_eq_false, not_false_eq_true, implies_true, false_implies, Nat.reduceAdd, Nat.reduceSub, Nat.reduceMul, Nat.reduceEqDiff, Nat.reduceLT, Nat.reduceLeDiff, Int.reduceAdd, Int.reduceSub, Int.reduceMul, Int.reduceNeg, Int.reduceToNat, Int.reduceLE, Int.reduceLT, Int.reduceEq, Int.reduceNe, and_self]
  (repeat' first | with_reducible apply And.intro | with_reducible intro _)
  all_goals first
    | omega
    | (refine lc_isIncluded h (fun k z1 R => ?_)
       simp only [pvE_aload_n1, pvLA_s, pvLd, pvE_aload_n0, pvE_iload, pvLI_s, pvE_iconst, pvE_iadd, pvE_iaload, pvAI, pvSh_0, pvSh_39, pvSh_58, pvSh_59, pvE_aload_n3, pvE_invokestatic (h0 := eL_260), pvC1_s, pvC2_s, pvAf_v, pvAf_x, pvPop, pvCs, pvCat, pvPush, aL_law_260, pvE_istore, pvS1, List.length_cons, List.length_nil, pvClr_i, pvClr_r, pvClr_l, pvClr_d, pvClr_f, pvClr_n, pvE_aload_n2, pvE_invokevirtual, aL_law_262, aL_law_150, pvE_icmp_eq, pvE_ireturn, pvE_if_ne, pvE_laload, pvAL, pvE_if_eq, pvE_lconst1, pvE_goto, pvE_lconst0, pvE_lcmp, bL_law_2372, uL_law_2372, bL_law_2408, uL_law_2408, bL_law_2425, uL_law_2425, bL_law_2426, uL_law_2426, bL_law_2432, uL_law_2432, bL_law_2760, uL_law_2760, pvMk_t, pvMk_f, pvMk_n, pvRecv_r, pvUp_nl, pvUp_same, pvUp_ap, pvSt_ap, pvX_c, pvX_ms, pvX_mn, pvE_nil, pvEn_i, pvEn_r, pvEn_l, pvEn_0, pvEn_s, pvRt, pvRv, pvTh, pvKc, pvGo, pvTgt, Int.toNat_natCast, false_and, and_false, true_and, and_true, if_true, if_false, reduceIte, reduceCtorEq, forall_const, false_or, or_false, true_or, or_true, ne_eq, not_true_eq_false, not_false_eq_true, implies_true, false_implies, Nat.reduceAdd, Nat.reduceSub, Nat.reduceMul, Nat.reduceEqDiff, Nat.reduceLT, Nat.reduceLeDiff, Int.reduceAdd, Int.reduceSub, Int.reduceMul, Int.reduceNeg, Int.reduceToNat, Int.reduceLE, Int.reduceLT, Int.reduceEq, Int.reduceNe, and_self]
       (repeat' first | with_reducible apply And.intro | with_reducible intro _)
       all_goals first
         | omega
         | (refine R _ (fun b z2 e8 eb hI => ?_)
            simp only [C_X10_thrown, e8, pvRt2, pvTh2, pvE_aload_n1, pvLA_s, pvLd, pvE_aload_n0, pvE_iload, pvLI_s, pvE_iconst, pvE_iadd, pvE_iaload, pvAI, pvSh_0, pvSh_39, pvSh_58, pvSh_59, pvE_aload_n3, pvE_invokestatic (h0 := eL_260), pvC1_s, pvC2_s, pvAf_v, pvAf_x, pvPop, pvCs, pvCat, pvPush, aL_law_260, pvE_istore, pvS1, List.length_cons, List.length_nil, pvClr_i, pvClr_r, pvClr_l, pvClr_d, pvClr_f, pvClr_n, pvE_aload_n2, pvE_invokevirtual, aL_law_262, aL_law_150, pvE_icmp_eq, pvE_ireturn, pvE_if_ne, pvE_laload, pvAL, pvE_if_eq, pvE_lconst1, pvE_goto, pvE_lconst0, pvE_lcmp, bL_law_2372, uL_law_2372, bL_law_2408, uL_law_2408, bL_law_2425, uL_law_2425, bL_law_2426, uL_law_2426, bL_law_2432, uL_law_2432, bL_law_2760, uL_law_2760, pvMk_t, pvMk_f, pvMk_n, pvRecv_r, pvUp_nl, pvUp_same, pvUp_ap, pvSt_ap, pvX_c, pvX_ms, pvX_mn, pvE_nil, pvEn_i, pvEn_r, pvEn_l, pvEn_0, pvEn_s, pvRt, pvRv, pvTh, pvKc, pvGo, pvTgt, Int.toNat_natCast, false_and, and_false, true_and, and_true, if_true, if_false, reduceIte, reduceCtorEq, forall_const, false_or, or_false, true_or, or_true, ne_eq, not_true_eq_false, not_false_eq_true, implies_true, false_implies, Nat.reduceAdd, Nat.reduceSub, Nat.reduceMul, Nat.reduceEqDiff, Nat.reduceLT, Nat.reduceLeDiff, Int.reduceAdd, Int.reduceSub, Int.reduceMul, Int.reduceNeg, Int.reduceToNat, Int.reduceLE, Int.reduceLT, Int.reduceEq, Int.reduceNe, and_self]
            (repeat' first | with_reducible apply And.intro | with_reducible intro _)
            all_goals first
              | omega
              | contradiction
              | (exact nx _ _ (by omega) hI)
              | (exact ef)
              | (rename k = 0 => k0; have eb1 := eb k0; exact eb1.2.1)
              | (rename k = 0 => k0; have eb1 := eb k0; exact eb1.2.2)
              | (rename k = 0 => k0; have eb1 := eb k0; rw [eb1.1]; first | exact eb1.2.1 | exact eb1.2.2)
              | (rename ¬ k ≠ 0 => k0; have eb1 := eb (by omega); first | exact eb1.2.1 | exact eb1.2.2 | (rw [eb1.1]; first | exact eb1.2.1 | exact eb1.2.2) | (rw [eb1]; split <;> omega))
              | (exfalso; have eb1 := eb (by omega); simp only [eb1] at *; rename ¬ (_ : Int) = 0 => q9; exact q9 (by rw [dcmp_s ef]; rfl))
              | (exfalso; have eb1 := eb (by omega); simp only [eb1] at *; simp_all; done)
              | (exfalso; have eb1 := (eb (by omega)).1; simp only [eb1] at *; simp_all; done)))
set_option maxRecDepth 100000 in
set_option maxHeartbeats 4000000 in
theorem lw_35 {sc : Nat × (Nat → Int)} {Gm : Nat} {Q : pvO → pvM → Prop} {SW : Nat → pvL → pvM → Nat → Prop} (hc : pvCl2 sc Gm fL aL_law kL eL (some .boolean) bL_law uL_law Q SW) {z : pvM} {i : Int} {g : Nat} (h : lwI z) (hi : 0 ≤ i ∧ i + 5 ≤ sc.1 ∧ (sc.1 : Int) ≤ 2147483647) (hg : g + 2 ≤ Gm)
    (nx : ∀ (z' : pvM) (g' : Nat), g' ≤ g + 1 → lwI z' → SW 2760 (lwL i) z' g') : SW 2435 (lwL i) z g := by
  refine hc 20 _ _ _ _ fun _ _ => ?_
  clear hc
  simp only [pvSt2]
  simp only [pvE_aload_n1, pvLA_s, pvLd, pvE_aload_n0, pvE_iload, pvLI_s, pvE_iconst, pvE_iadd, pvE_iaload, pvAI, pvSh_0, pvSh_39, pvSh_58, pvSh_59, pvE_aload_n3, pvE_invokestatic (h0 := eL_263), pvC1_s, pvC2_s, pvAf_v, pvAf_x, pvPop, pvCs, pvCat, pvPush, aL_law_263, pvE_istore, pvS1, List.length_cons, List.length_nil, pvClr_i, pvClr_r, pvClr_l, pvClr_d, pvClr_f, pvClr_n, pvE_aload_n2, pvE_invokevirtual, aL_law_265, pvE_lstore, pvS2, aL_law_150, pvE_icmp_eq, pvE_ireturn, pvE_if_ne, pvE_laload, pvAL, pvE_lload, pvLL_s, pvE_lcmp, pvE_if_eq, pvE_goto, bL_law_2435, uL_law_2435, bL_law_2495, uL_law_2495, bL_law_2511, uL_law_2511, bL_law_2760, uL_law_2760, pvMk_t, pvMk_f, pvMk_n, pvRecv_r, pvUp_nl, pvUp_same, pvUp_ap, pvSt_ap, pvX_c, pvX_ms, pvX_mn, pvE_nil, pvEn_i, pvEn_r, pvEn_l, pvEn_0, pvEn_s, pvRt, pvRv, pvTh, pvKc, pvGo, pvTgt, Int.toNat_natCast, false_and, and_false, true_and, and_true, if_true, if_false, reduceIte, reduceCtorEq, forall_const, false_or, or_false, true_or, or_true, ne_eq, not_true_eq_false, not_false_eq_true, implies_true, false_implies, Nat.reduceAdd, Nat.reduceSub, Nat.reduceMul, Nat.reduceEqDiff, Nat.reduceLT, Nat.reduceLeDiff, Int.reduceAdd, Int.reduceSub, Int.reduceMul, Int.reduceNeg, Int.reduceToNat, Int.reduceLE, Int.reduceLT, Int.reduceEq, Int.reduceNe, and_self]
  (repeat' first | with_reducible apply And.intro | with_reducible intro _)
  all_goals first
    | omega
    | (refine lc_acceptedWords h (fun k z1 R => ?_)
       simp only [pvE_aload_n1, pvLA_s, pvLd, pvE_aload_n0, pvE_iload, pvLI_s, pvE_iconst, pvE_iadd, pvE_iaload, pvAI, pvSh_0, pvSh_39, pvSh_58, pvSh_59, pvE_aload_n3, pvE_invokestatic (h0 := eL_263), pvC1_s, pvC2_s, pvAf_v, pvAf_x, pvPop, pvCs, pvCat, pvPush, aL_law_263, pvE_istore, pvS1, List.length_cons, List.length_nil, pvClr_i, pvClr_r, pvClr_l, pvClr_d, pvClr_f, pvClr_n, pvE_aload_n2, pvE_invokevirtual, aL_law_265, pvE_lstore, pvS2, aL_law_150, pvE_icmp_eq, pvE_ireturn, pvE_if_ne, pvE_laload, pvAL, pvE_lload, pvLL_s, pvE_lcmp, pvE_if_eq, pvE_goto, bL_law_2435, uL_law_2435, bL_law_2495, uL_law_2495, bL_law_2511, uL_law_2511, bL_law_2760, uL_law_2760, pvMk_t, pvMk_f, pvMk_n, pvRecv_r, pvUp_nl, pvUp_same, pvUp_ap, pvSt_ap, pvX_c, pvX_ms, pvX_mn, pvE_nil, pvEn_i, pvEn_r, pvEn_l, pvEn_0, pvEn_s, pvRt, pvRv, pvTh, pvKc, pvGo, pvTgt, Int.toNat_natCast, false_and, and_false, true_and, and_true, if_true, if_false, reduceIte, reduceCtorEq, forall_const, false_or, or_false, true_or, or_true, ne_eq, not_true_eq_false, not_false_eq_true, implies_true, false_implies, Nat.reduceAdd, Nat.reduceSub, Nat.reduceMul, Nat.reduceEqDiff, Nat.reduceLT, Nat.reduceLeDiff, Int.reduceAdd, Int.reduceSub, Int.reduceMul, Int.reduceNeg, Int.reduceToNat, Int.reduceLE, Int.reduceLT, Int.reduceEq, Int.reduceNe, and_self]
       (repeat' first | with_reducible apply And.intro | with_reducible intro _)
       all_goals first
         | omega
         | (refine R _ (fun b z2 e8 eb hI => ?_)
            simp only [C_X10_thrown, e8, pvRt2, pvTh2, pvE_aload_n1, pvLA_s, pvLd, pvE_aload_n0, pvE_iload, pvLI_s, pvE_iconst, pvE_iadd, pvE_iaload, pvAI, pvSh_0, pvSh_39, pvSh_58, pvSh_59, pvE_aload_n3, pvE_invokestatic (h0 := eL_263), pvC1_s, pvC2_s, pvAf_v, pvAf_x, pvPop, pvCs, pvCat, pvPush, aL_law_263, pvE_istore, pvS1, List.length_cons, List.length_nil, pvClr_i, pvClr_r, pvClr_l, pvClr_d, pvClr_f, pvClr_n, pvE_aload_n2, pvE_invokevirtual, aL_law_265, pvE_lstore, pvS2, aL_law_150, pvE_icmp_eq, pvE_ireturn, pvE_if_ne, pvE_laload, pvAL, pvE_lload, pvLL_s, pvE_lcmp, pvE_if_eq, pvE_goto, bL_law_2435, uL_law_2435, bL_law_2495, uL_law_2495, bL_law_2511, uL_law_2511, bL_law_2760, uL_law_2760, pvMk_t, pvMk_f, pvMk_n, pvRecv_r, pvUp_nl, pvUp_same, pvUp_ap, pvSt_ap, pvX_c, pvX_ms, pvX_mn, pvE_nil, pvEn_i, pvEn_r, pvEn_l, pvEn_0, pvEn_s, pvRt, pvRv, pvTh, pvKc, pvGo, pvTgt, Int.toNat_natCast, false_and, and_false, true_and, and_true, if_true, if_false, reduceIte, reduceCtorEq, forall_const, false_or, or_false, true_or, or_true, ne_eq, not_true_eq_false, not_false_eq_true, implies_true, false_implies, Nat.reduceAdd, Nat.reduceSub, Nat.reduceMul, Nat.reduceEqDiff, Nat.reduceLT, Nat.reduceLeDiff, Int.reduceAdd, Int.reduceSub, Int.reduceMul, Int.reduceNeg, Int.reduceToNat, Int.reduceLE, Int.reduceLT, Int.reduceEq, Int.reduceNe, and_self]
            (repeat' first | with_reducible apply And.intro | with_reducible intro _)
            all_goals first
              | omega
              | contradiction
              | (exact nx _ _ (by omega) hI)
              | (exact ef)
              | (rename k = 0 => k0; have eb1 := eb k0; exact eb1.2.1)
              | (rename k = 0 => k0; have eb1 := eb k0; exact eb1.2.2)
              | (rename k = 0 => k0; have eb1 := eb k0; rw [eb1.1]; first | exact eb1.2.1 | exact eb1.2.2)
              | (rename ¬ k ≠ 0 => k0; have eb1 := eb (by omega); first | exact eb1.2.1 | exact eb1.2.2 | (rw [eb1.1]; first | exact eb1.2.1 | exact eb1.2.2) | (rw [eb1]; split <;> omega))
              | (exfalso; have eb1 := eb (by omega); simp only [eb1] at *; rename ¬ (_ : Int) = 0 => q9; exact q9 (by rw [dcmp_s ef]; rfl))
              | (exfalso; have eb1 := eb (by omega); simp only [eb1] at *; simp_all; done)
              | (exfalso; have eb1 := (eb (by omega)).1; simp only [eb1] at *; simp_all; done)))
set_option maxRecDepth 100000 in
set_option maxHeartbeats 4000000 in
theorem lw_36 {sc : Nat × (Nat → Int)} {Gm : Nat} {Q : pvO → pvM → Prop} {SW : Nat → pvL → pvM → Nat → Prop} (hc : pvCl2 sc Gm fL aL_law kL eL (some .boolean) bL_law uL_law Q SW) {z : pvM} {i : Int} {g : Nat} (h : lwI z) (hi : 0 ≤ i ∧ i + 5 ≤ sc.1 ∧ (sc.1 : Int) ≤ 2147483647) (hg : g + 2 ≤ Gm)
    (nx : ∀ (z' : pvM) (g' : Nat), g' ≤ g + 1 → lwI z' → SW 2760 (lwL i) z' g') : SW 2514 (lwL i) z g := by
  refine hc 20 _ _ _ _ fun _ _ => ?_
  clear hc
  simp only [pvSt2]
  simp only [pvE_aload_n1, pvLA_s, pvLd, pvE_aload_n0, pvE_iload, pvLI_s, pvE_iconst, pvE_iadd, pvE_iaload, pvAI, pvSh_0, pvSh_39, pvSh_58, pvSh_59, pvE_aload, pvE_invokestatic (h0 := eL_266), pvC1_s, pvC2_s, pvAf_v, pvAf_x, pvPop, pvCs, pvCat, pvPush, aL_law_266, pvE_istore, pvS1, List.length_cons, List.length_nil, pvClr_i, pvClr_r, pvClr_l, pvClr_d, pvClr_f, pvClr_n, pvE_aload_n2, pvE_invokevirtual, aL_law_269, pvE_dstore, pvS2, aL_law_150, pvE_icmp_eq, pvE_ireturn, pvE_if_ne, pvE_daload, pvAD, pvE_dload, pvLD_s, pvE_dcmp, pvE_if_eq, pvE_goto, bL_law_2514, uL_law_2514, bL_law_2563, uL_law_2563, bL_law_2598, uL_law_2598, bL_law_2600, uL_law_2600, bL_law_2760, uL_law_2760, pvMk_t, pvMk_f, pvMk_n, pvRecv_r, pvUp_nl, pvUp_same, pvUp_ap, pvSt_ap, pvX_c, pvX_ms, pvX_mn, pvE_nil, pvEn_i, pvEn_r, pvEn_l, pvEn_0, pvEn_s, pvRt, pvRv, pvTh, pvKc, pvGo, pvTgt, Int.toNat_natCast, false_and, and_false, true_and, and_true, if_true, if_false, reduceIte, reduceCtorEq, forall_const, false_or, or_false, true_or, or_true, ne_eq, not_true_eq_false, not_false_eq_true, implies_true, false_implies, Nat.reduceAdd, Nat.reduceSub, Nat.reduceMul, Nat.reduceEqDiff, Nat.reduceLT, Nat.reduceLeDiff, Int.reduceAdd, Int.reduceSub, Int.reduceMul, Int.reduceNeg, Int.reduceToNat, Int.reduceLE, Int.reduceLT, Int.reduceEq, Int.reduceNe, and_self]
  (repeat' first | with_reducible apply And.intro | with_reducible intro _)
  all_goals first
    | omega
    | (refine lc_acceptedShare h (fun k z1 R => ?_)
       simp only [pvE_aload_n1, pvLA_s, pvLd, pvE_aload_n0, pvE_iload, pvLI_s, pvE_iconst, pvE_iadd, pvE_iaload, pvAI, pvSh_0, pvSh_39, pvSh_58, pvSh_59, pvE_aload, pvE_invokestatic (h0 := eL_266), pvC1_s, pvC2_s, pvAf_v, pvAf_x, pvPop, pvCs, pvCat, pvPush, aL_law_266, pvE_istore, pvS1, List.length_cons, List.length_nil, pvClr_i, pvClr_r, pvClr_l, pvClr_d, pvClr_f, pvClr_n, pvE_aload_n2, pvE_invokevirtual, aL_law_269, pvE_dstore, pvS2, aL_law_150, pvE_icmp_eq, pvE_ireturn, pvE_if_ne, pvE_daload, pvAD, pvE_dload, pvLD_s, pvE_dcmp, pvE_if_eq, pvE_goto, bL_law_2514, uL_law_2514, bL_law_2563, uL_law_2563, bL_law_2598, uL_law_2598, bL_law_2600, uL_law_2600, bL_law_2760, uL_law_2760, pvMk_t, pvMk_f, pvMk_n, pvRecv_r, pvUp_nl, pvUp_same, pvUp_ap, pvSt_ap, pvX_c, pvX_ms, pvX_mn, pvE_nil, pvEn_i, pvEn_r, pvEn_l, pvEn_0, pvEn_s, pvRt, pvRv, pvTh, pvKc, pvGo, pvTgt, Int.toNat_natCast, false_and, and_false, true_and, and_true, if_true, if_false, reduceIte, reduceCtorEq, forall_const, false_or, or_false, true_or, or_true, ne_eq, not_true_eq_false, not_false_eq_true, implies_true, false_implies, Nat.reduceAdd, Nat.reduceSub, Nat.reduceMul, Nat.reduceEqDiff, Nat.reduceLT, Nat.reduceLeDiff, Int.reduceAdd, Int.reduceSub, Int.reduceMul, Int.reduceNeg, Int.reduceToNat, Int.reduceLE, Int.reduceLT, Int.reduceEq, Int.reduceNe, and_self]
       (repeat' first | with_reducible apply And.intro | with_reducible intro _)
       all_goals first
         | omega
         | (refine R _ (fun b z2 e8 eb hI => ?_)
            simp only [C_X10_thrown, e8, pvRt2, pvTh2, pvE_aload_n1, pvLA_s, pvLd, pvE_aload_n0, pvE_iload, pvLI_s, pvE_iconst, pvE_iadd, pvE_iaload, pvAI, pvSh_0, pvSh_39, pvSh_58, pvSh_59, pvE_aload, pvE_invokestatic (h0 := eL_266), pvC1_s, pvC2_s, pvAf_v, pvAf_x, pvPop, pvCs, pvCat, pvPush, aL_law_266, pvE_istore, pvS1, List.length_cons, List.length_nil, pvClr_i, pvClr_r, pvClr_l, pvClr_d, pvClr_f, pvClr_n, pvE_aload_n2, pvE_invokevirtual, aL_law_269, pvE_dstore, pvS2, aL_law_150, pvE_icmp_eq, pvE_ireturn, pvE_if_ne, pvE_daload, pvAD, pvE_dload, pvLD_s, pvE_dcmp, pvE_if_eq, pvE_goto, bL_law_2514, uL_law_2514, bL_law_2563, uL_law_2563, bL_law_2598, uL_law_2598, bL_law_2600, uL_law_2600, bL_law_2760, uL_law_2760, pvMk_t, pvMk_f, pvMk_n, pvRecv_r, pvUp_nl, pvUp_same, pvUp_ap, pvSt_ap, pvX_c, pvX_ms, pvX_mn, pvE_nil, pvEn_i, pvEn_r, pvEn_l, pvEn_0, pvEn_s, pvRt, pvRv, pvTh, pvKc, pvGo, pvTgt, Int.toNat_natCast, false_and, and_false, true_and, and_true, if_true, if_false, reduceIte, reduceCtorEq, forall_const, false_or, or_false, true_or, or_true, ne_eq, not_true_eq_false, not_false_eq_true, implies_true, false_implies, Nat.reduceAdd, Nat.reduceSub, Nat.reduceMul, Nat.reduceEqDiff, Nat.reduceLT, Nat.reduceLeDiff, Int.reduceAdd, Int.reduceSub, Int.reduceMul, Int.reduceNeg, Int.reduceToNat, Int.reduceLE, Int.reduceLT, Int.reduceEq, Int.reduceNe, and_self]
            (repeat' first | with_reducible apply And.intro | with_reducible intro _)
            all_goals first
              | omega
              | contradiction
              | (exact nx _ _ (by omega) hI)
              | (exact ef)
              | (rename k = 0 => k0; have eb1 := eb k0; exact eb1.2.1)
              | (rename k = 0 => k0; have eb1 := eb k0; exact eb1.2.2)
              | (rename k = 0 => k0; have eb1 := eb k0; rw [eb1.1]; first | exact eb1.2.1 | exact eb1.2.2)
              | (rename ¬ k ≠ 0 => k0; have eb1 := eb (by omega); first | exact eb1.2.1 | exact eb1.2.2 | (rw [eb1.1]; first | exact eb1.2.1 | exact eb1.2.2) | (rw [eb1]; split <;> omega))
              | (exfalso; have eb1 := eb (by omega); simp only [eb1] at *; rename ¬ (_ : Int) = 0 => q9; exact q9 (by rw [dcmp_s ef]; rfl))
              | (exfalso; have eb1 := eb (by omega); simp only [eb1] at *; simp_all; done)
              | (exfalso; have eb1 := (eb (by omega)).1; simp only [eb1] at *; simp_all; done)))
set_option maxRecDepth 100000 in
set_option maxHeartbeats 4000000 in
theorem lw_37 {sc : Nat × (Nat → Int)} {Gm : Nat} {Q : pvO → pvM → Prop} {SW : Nat → pvL → pvM → Nat → Prop} (hc : pvCl2 sc Gm fL aL_law kL eL (some .boolean) bL_law uL_law Q SW) {z : pvM} {i : Int} {g : Nat} (h : lwI z) (hi : 0 ≤ i ∧ i + 5 ≤ sc.1 ∧ (sc.1 : Int) ≤ 2147483647) (hg : g + 2 ≤ Gm)
    (nx : ∀ (z' : pvM) (g' : Nat), g' ≤ g + 1 → lwI z' → SW 2760 (lwL i) z' g') : SW 2603 (lwL i) z g := by
  refine hc 20 _ _ _ _ fun _ _ => ?_
  clear hc
  simp only [pvSt2]
  simp only [pvE_aload_n1, pvLA_s, pvLd, pvE_aload_n0, pvE_iload, pvLI_s, pvE_iconst, pvE_iadd, pvE_iaload, pvAI, pvSh_0, pvSh_39, pvSh_58, pvSh_59, pvE_aload, pvE_invokestatic (h0 := eL_270), pvC1_s, pvC2_s, pvAf_v, pvAf_x, pvPop, pvCs, pvCat, pvPush, aL_law_270, pvE_istore, pvS1, List.length_cons, List.length_nil, pvClr_i, pvClr_r, pvClr_l, pvClr_d, pvClr_f, pvClr_n, pvE_aload_n2, pvE_invokevirtual, aL_law_273, pvE_fstore, aL_law_150, pvE_icmp_eq, pvE_ireturn, pvE_if_ne, pvE_daload, pvAD, pvE_fload, pvLF_s, pvE_f2d, pvE_dcmp, pvE_if_eq, pvE_fcmp, pvE_goto, bL_law_2603, uL_law_2603, bL_law_2640, uL_law_2640, bL_law_2676, uL_law_2676, bL_law_2678, uL_law_2678, bL_law_2760, uL_law_2760, pvMk_t, pvMk_f, pvMk_n, pvRecv_r, pvUp_nl, pvUp_same, pvUp_ap, pvSt_ap, pvX_c, pvX_ms, pvX_mn, pvE_nil, pvEn_i, pvEn_r, pvEn_l, pvEn_0, pvEn_s, pvRt, pvRv, pvTh, pvKc, pvGo, pvTgt, Int.toNat_natCast, false_and, and_false, true_and, and_true, if_true, if_false, reduceIte, reduceCtorEq, forall_const, false_or, or_false, true_or, or_true, ne_eq, not_true_eq_false, not_false_eq_true, implies_true, false_implies, Nat.reduceAdd, Nat.reduceSub, Nat.reduceMul, Nat.reduceEqDiff, Nat.reduceLT, Nat.reduceLeDiff, Int.reduceAdd, Int.reduceSub, Int.reduceMul, Int.reduceNeg, Int.reduceToNat, Int.reduceLE, Int.reduceLT, Int.reduceEq, Int.reduceNe, and_self]
  (repeat' first | with_reducible apply And.intro | with_reducible intro _)
  all_goals first
    | omega
    | (refine lc_averageBranches h (fun k z1 R => ?_)
       simp only [pvE_aload_n1, pvLA_s, pvLd, pvE_aload_n0, pvE_iload, pvLI_s, pvE_iconst, pvE_iadd, pvE_iaload, pvAI, pvSh_0, pvSh_39, pvSh_58, pvSh_59, pvE_aload, pvE_invokestatic (h0 := eL_270), pvC1_s, pvC2_s, pvAf_v, pvAf_x, pvPop, pvCs, pvCat, pvPush, aL_law_270, pvE_istore, pvS1, List.length_cons, List.length_nil, pvClr_i, pvClr_r, pvClr_l, pvClr_d, pvClr_f, pvClr_n, pvE_aload_n2, pvE_invokevirtual, aL_law_273, pvE_fstore, aL_law_150, pvE_icmp_eq, pvE_ireturn, pvE_if_ne, pvE_daload, pvAD, pvE_fload, pvLF_s, pvE_f2d, pvE_dcmp, pvE_if_eq, pvE_fcmp, pvE_goto, bL_law_2603, uL_law_2603, bL_law_2640, uL_law_2640, bL_law_2676, uL_law_2676, bL_law_2678, uL_law_2678, bL_law_2760, uL_law_2760, pvMk_t, pvMk_f, pvMk_n, pvRecv_r, pvUp_nl, pvUp_same, pvUp_ap, pvSt_ap, pvX_c, pvX_ms, pvX_mn, pvE_nil, pvEn_i, pvEn_r, pvEn_l, pvEn_0, pvEn_s, pvRt, pvRv, pvTh, pvKc, pvGo, pvTgt, Int.toNat_natCast, false_and, and_false, true_and, and_true, if_true, if_false, reduceIte, reduceCtorEq, forall_const, false_or, or_false, true_or, or_true, ne_eq, not_true_eq_false, not_false_eq_true, implies_true, false_implies, Nat.reduceAdd, Nat.reduceSub, Nat.reduceMul, Nat.reduceEqDiff, Nat.reduceLT, Nat.reduceLeDiff, Int.reduceAdd, Int.reduceSub, Int.reduceMul, Int.reduceNeg, Int.reduceToNat, Int.reduceLE, Int.reduceLT, Int.reduceEq, Int.reduceNe, and_self]
       (repeat' first | with_reducible apply And.intro | with_reducible intro _)
       all_goals first
         | omega
         | (refine R _ (fun b z2 e8 eb0 hI => ?_)
            obtain ⟨eb, ef⟩ := eb0
            simp only [C_X10_thrown, e8, pvRt2, pvTh2, pvE_aload_n1, pvLA_s, pvLd, pvE_aload_n0, pvE_iload, pvLI_s, pvE_iconst, pvE_iadd, pvE_iaload, pvAI, pvSh_0, pvSh_39, pvSh_58, pvSh_59, pvE_aload, pvE_invokestatic (h0 := eL_270), pvC1_s, pvC2_s, pvAf_v, pvAf_x, pvPop, pvCs, pvCat, pvPush, aL_law_270, pvE_istore, pvS1, List.length_cons, List.length_nil, pvClr_i, pvClr_r, pvClr_l, pvClr_d, pvClr_f, pvClr_n, pvE_aload_n2, pvE_invokevirtual, aL_law_273, pvE_fstore, aL_law_150, pvE_icmp_eq, pvE_ireturn, pvE_if_ne, pvE_daload, pvAD, pvE_fload, pvLF_s, pvE_f2d, pvE_dcmp, pvE_if_eq, pvE_fcmp, pvE_goto, bL_law_2603, uL_law_2603, bL_law_2640, uL_law_2640, bL_law_2676, uL_law_2676, bL_law_2678, uL_law_2678, bL_law_2760, uL_law_2760, pvMk_t, pvMk_f, pvMk_n, pvRecv_r, pvUp_nl, pvUp_same, pvUp_ap, pvSt_ap, pvX_c, pvX_ms, pvX_mn, pvE_nil, pvEn_i, pvEn_r, pvEn_l, pvEn_0, pvEn_s, pvRt, pvRv, pvTh, pvKc, pvGo, pvTgt, Int.toNat_natCast, false_and, and_false, true_and, and_true, if_true, if_false, reduceIte, reduceCtorEq, forall_const, false_or, or_false, true_or, or_true, ne_eq, not_true_eq_false, not_false_eq_true, implies_true, false_implies, Nat.reduceAdd, Nat.reduceSub, Nat.reduceMul, Nat.reduceEqDiff, Nat.reduceLT, Nat.reduceLeDiff, Int.reduceAdd, Int.reduceSub, Int.reduceMul, Int.reduceNeg, Int.reduceToNat, Int.reduceLE, Int.reduceLT, Int.reduceEq, Int.reduceNe, and_self]
            (repeat' first | with_reducible apply And.intro | with_reducible intro _)
            all_goals first
              | omega
              | contradiction
              | (exact nx _ _ (by omega) hI)
              | (exact ef)
              | (rename k = 0 => k0; have eb1 := eb k0; exact eb1.2.1)
              | (rename k = 0 => k0; have eb1 := eb k0; exact eb1.2.2)
              | (rename k = 0 => k0; have eb1 := eb k0; rw [eb1.1]; first | exact eb1.2.1 | exact eb1.2.2)
              | (rename ¬ k ≠ 0 => k0; have eb1 := eb (by omega); first | exact eb1.2.1 | exact eb1.2.2 | (rw [eb1.1]; first | exact eb1.2.1 | exact eb1.2.2) | (rw [eb1]; split <;> omega))
              | (exfalso; have eb1 := eb (by omega); simp only [eb1] at *; rename ¬ (_ : Int) = 0 => q9; exact q9 (by rw [dcmp_s ef]; rfl))
              | (exfalso; have eb1 := eb (by omega); simp only [eb1] at *; simp_all; done)
              | (exfalso; have eb1 := (eb (by omega)).1; simp only [eb1] at *; simp_all; done)))
set_option maxRecDepth 100000 in
set_option maxHeartbeats 4000000 in
theorem lw_38 {sc : Nat × (Nat → Int)} {Gm : Nat} {Q : pvO → pvM → Prop} {SW : Nat → pvL → pvM → Nat → Prop} (hc : pvCl2 sc Gm fL aL_law kL eL (some .boolean) bL_law uL_law Q SW) {z : pvM} {i : Int} {g : Nat} (h : lwI z) (hi : 0 ≤ i ∧ i + 5 ≤ sc.1 ∧ (sc.1 : Int) ≤ 2147483647) (hg : g + 2 ≤ Gm)
    (nx : ∀ (z' : pvM) (g' : Nat), g' ≤ g + 1 → lwI z' → SW 2760 (lwL i) z' g') : SW 2681 (lwL i) z g := by
  refine hc 20 _ _ _ _ fun _ _ => ?_
  clear hc
  simp only [pvSt2]
  simp only [pvE_aload_n1, pvLA_s, pvLd, pvE_aload_n3, pvE_invokestatic (h0 := eL_274), pvC1_s, pvC2_s, pvAf_v, pvAf_x, pvPop, pvCs, pvCat, pvPush, aL_law_274, pvE_istore, pvS1, List.length_cons, List.length_nil, pvClr_i, pvClr_r, pvClr_l, pvClr_d, pvClr_f, pvClr_n, pvE_aload_n2, pvE_invokevirtual, aL_law_277, pvSh_0, pvSh_39, pvSh_58, pvSh_59, aL_law_150, pvE_iload, pvLI_s, pvE_icmp_eq, pvE_iconst, pvE_ireturn, pvE_if_ne, pvE_laload, pvAL, pvE_i2l, pvE_lcmp, pvE_if_eq, pvE_goto, bL_law_2681, uL_law_2681, bL_law_2705, uL_law_2705, bL_law_2722, uL_law_2722, bL_law_2760, uL_law_2760, pvMk_t, pvMk_f, pvMk_n, pvRecv_r, pvUp_nl, pvUp_same, pvUp_ap, pvSt_ap, pvX_c, pvX_ms, pvX_mn, pvE_nil, pvEn_i, pvEn_r, pvEn_l, pvEn_0, pvEn_s, pvRt, pvRv, pvTh, pvKc, pvGo, pvTgt, Int.toNat_natCast, false_and, and_false, true_and, and_true, if_true, if_false, reduceIte, reduceCtorEq, forall_const, false_or, or_false, true_or, or_true, ne_eq, not_true_eq_false, not_false_eq_true, implies_true, false_implies, Nat.reduceAdd, Nat.reduceSub, Nat.reduceMul, Nat.reduceEqDiff, Nat.reduceLT, Nat.reduceLeDiff, Int.reduceAdd, Int.reduceSub, Int.reduceMul, Int.reduceNeg, Int.reduceToNat, Int.reduceLE, Int.reduceLT, Int.reduceEq, Int.reduceNe, and_self]
  (repeat' first | with_reducible apply And.intro | with_reducible intro _)
  all_goals first
    | omega
    | (refine lc_undo h (fun k z1 R => ?_)
       simp only [pvE_aload_n1, pvLA_s, pvLd, pvE_aload_n3, pvE_invokestatic (h0 := eL_274), pvC1_s, pvC2_s, pvAf_v, pvAf_x, pvPop, pvCs, pvCat, pvPush, aL_law_274, pvE_istore, pvS1, List.length_cons, List.length_nil, pvClr_i, pvClr_r, pvClr_l, pvClr_d, pvClr_f, pvClr_n, pvE_aload_n2, pvE_invokevirtual, aL_law_277, pvSh_0, pvSh_39, pvSh_58, pvSh_59, aL_law_150, pvE_iload, pvLI_s, pvE_icmp_eq, pvE_iconst, pvE_ireturn, pvE_if_ne, pvE_laload, pvAL, pvE_i2l, pvE_lcmp, pvE_if_eq, pvE_goto, bL_law_2681, uL_law_2681, bL_law_2705, uL_law_2705, bL_law_2722, uL_law_2722, bL_law_2760, uL_law_2760, pvMk_t, pvMk_f, pvMk_n, pvRecv_r, pvUp_nl, pvUp_same, pvUp_ap, pvSt_ap, pvX_c, pvX_ms, pvX_mn, pvE_nil, pvEn_i, pvEn_r, pvEn_l, pvEn_0, pvEn_s, pvRt, pvRv, pvTh, pvKc, pvGo, pvTgt, Int.toNat_natCast, false_and, and_false, true_and, and_true, if_true, if_false, reduceIte, reduceCtorEq, forall_const, false_or, or_false, true_or, or_true, ne_eq, not_true_eq_false, not_false_eq_true, implies_true, false_implies, Nat.reduceAdd, Nat.reduceSub, Nat.reduceMul, Nat.reduceEqDiff, Nat.reduceLT, Nat.reduceLeDiff, Int.reduceAdd, Int.reduceSub, Int.reduceMul, Int.reduceNeg, Int.reduceToNat, Int.reduceLE, Int.reduceLT, Int.reduceEq, Int.reduceNe, and_self]
       (repeat' first | with_reducible apply And.intro | with_reducible intro _)
       all_goals first
         | omega
         | (refine R _ (fun b z2 e8 eb hI => ?_)
            simp only [C_X10_thrown, e8, pvRt2, pvTh2, pvE_aload_n1, pvLA_s, pvLd, pvE_aload_n3, pvE_invokestatic (h0 := eL_274), pvC1_s, pvC2_s, pvAf_v, pvAf_x, pvPop, pvCs, pvCat, pvPush, aL_law_274, pvE_istore, pvS1, List.length_cons, List.length_nil, pvClr_i, pvClr_r, pvClr_l, pvClr_d, pvClr_f, pvClr_n, pvE_aload_n2, pvE_invokevirtual, aL_law_277, pvSh_0, pvSh_39, pvSh_58, pvSh_59, aL_law_150, pvE_iload, pvLI_s, pvE_icmp_eq, pvE_iconst, pvE_ireturn, pvE_if_ne, pvE_laload, pvAL, pvE_i2l, pvE_lcmp, pvE_if_eq, pvE_goto, bL_law_2681, uL_law_2681, bL_law_2705, uL_law_2705, bL_law_2722, uL_law_2722, bL_law_2760, uL_law_2760, pvMk_t, pvMk_f, pvMk_n, pvRecv_r, pvUp_nl, pvUp_same, pvUp_ap, pvSt_ap, pvX_c, pvX_ms, pvX_mn, pvE_nil, pvEn_i, pvEn_r, pvEn_l, pvEn_0, pvEn_s, pvRt, pvRv, pvTh, pvKc, pvGo, pvTgt, Int.toNat_natCast, false_and, and_false, true_and, and_true, if_true, if_false, reduceIte, reduceCtorEq, forall_const, false_or, or_false, true_or, or_true, ne_eq, not_true_eq_false, not_false_eq_true, implies_true, false_implies, Nat.reduceAdd, Nat.reduceSub, Nat.reduceMul, Nat.reduceEqDiff, Nat.reduceLT, Nat.reduceLeDiff, Int.reduceAdd, Int.reduceSub, Int.reduceMul, Int.reduceNeg, Int.reduceToNat, Int.reduceLE, Int.reduceLT, Int.reduceEq, Int.reduceNe, and_self]
            (repeat' first | with_reducible apply And.intro | with_reducible intro _)
            all_goals first
              | omega
              | contradiction
              | (exact nx _ _ (by omega) hI)
              | (exact ef)
              | (rename k = 0 => k0; have eb1 := eb k0; exact eb1.2.1)
              | (rename k = 0 => k0; have eb1 := eb k0; exact eb1.2.2)
              | (rename k = 0 => k0; have eb1 := eb k0; rw [eb1.1]; first | exact eb1.2.1 | exact eb1.2.2)
              | (rename ¬ k ≠ 0 => k0; have eb1 := eb (by omega); first | exact eb1.2.1 | exact eb1.2.2 | (rw [eb1.1]; first | exact eb1.2.1 | exact eb1.2.2) | (rw [eb1]; split <;> omega))
              | (exfalso; have eb1 := eb (by omega); simp only [eb1] at *; rename ¬ (_ : Int) = 0 => q9; exact q9 (by rw [dcmp_s ef]; rfl))
              | (exfalso; have eb1 := eb (by omega); simp only [eb1] at *; simp_all; done)
              | (exfalso; have eb1 := (eb (by omega)).1; simp only [eb1] at *; simp_all; done)))
set_option maxRecDepth 100000 in
set_option maxHeartbeats 4000000 in
theorem lw_39 {sc : Nat × (Nat → Int)} {Gm : Nat} {Q : pvO → pvM → Prop} {SW : Nat → pvL → pvM → Nat → Prop} (hc : pvCl2 sc Gm fL aL_law kL eL (some .boolean) bL_law uL_law Q SW) {z : pvM} {i : Int} {g : Nat} (h : lwI z) (hi : 0 ≤ i ∧ i + 5 ≤ sc.1 ∧ (sc.1 : Int) ≤ 2147483647) (hg : g + 2 ≤ Gm)
    (nx : ∀ (z' : pvM) (g' : Nat), g' ≤ g + 1 → lwI z' → SW 2760 (lwL i) z' g') : SW 2725 (lwL i) z g := by
  refine hc 20 _ _ _ _ fun _ _ => ?_
  clear hc
  simp only [pvSt2]
  have t4 : z.1 17 4 = z.1 39 12 := h.2.1.1.2.1
  have t7 : z.1 20 4 = z.1 39 7 := h.2.2.1.2.1
  simp only [C_X9_save, C_X10_save, pvRt2, pvTh2, ne_eq, pvE_aload_n1, pvLA_s, pvLd, pvE_invokevirtual, pvC1_s, pvC2_s, pvAf_v, pvAf_x, pvPop, pvCs, pvCat, pvPush, aL_law_278, pvSh_0, pvSh_39, pvSh_58, pvSh_59, pvE_aload_n2, aL_law_281, pvE_goto, bL_law_2725, uL_law_2725, bL_law_2760, uL_law_2760, pvMk_t, pvMk_f, pvMk_n, pvRecv_r, pvUp_nl, pvUp_same, pvUp_ap, pvSt_ap, pvX_c, pvX_ms, pvX_mn, pvE_nil, pvEn_i, pvEn_r, pvEn_l, pvEn_0, pvEn_s, pvRt, pvRv, pvTh, pvKc, pvGo, pvTgt, Int.toNat_natCast, false_and, and_false, true_and, and_true, if_true, if_false, reduceIte, reduceCtorEq, forall_const, false_or, or_false, true_or, or_true, ne_eq, not_true_eq_false, not_false_eq_true, implies_true, false_implies, Nat.reduceAdd, Nat.reduceSub, Nat.reduceMul, Nat.reduceEqDiff, Nat.reduceLT, Nat.reduceLeDiff, Int.reduceAdd, Int.reduceSub, Int.reduceMul, Int.reduceNeg, Int.reduceToNat, Int.reduceLE, Int.reduceLT, Int.reduceEq, Int.reduceNe, and_self]
  (repeat' first | with_reducible apply And.intro | with_reducible intro _)
  all_goals first
    | omega
    | contradiction
    | (rename frF [36, 38] [] z _ => f1
       rename frF [39, 41] [] _ _ => f2
       have e39 := f1.1 39 (by decide)
       have e40 := f1.1 40 (by decide)
       simp only [e39, e40] at *
       exact nx _ _ (by omega) (lw_sv (b := _) h f1 (by assumption) (by assumption) (by assumption) (by assumption) f2 (by assumption) (by assumption) (by assumption)))
set_option maxRecDepth 100000 in
set_option maxHeartbeats 4000000 in
theorem lw_40 {sc : Nat × (Nat → Int)} {Gm : Nat} {Q : pvO → pvM → Prop} {SW : Nat → pvL → pvM → Nat → Prop} (hc : pvCl2 sc Gm fL aL_law kL eL (some .boolean) bL_law uL_law Q SW) {z : pvM} {i : Int} {g : Nat} (h : lwI z) (hi : 0 ≤ i ∧ i + 5 ≤ sc.1 ∧ (sc.1 : Int) ≤ 2147483647) (hg : g + 2 ≤ Gm)
    (nx : ∀ (z' : pvM) (g' : Nat), g' ≤ g + 1 → lwI z' → SW 2760 (lwL i) z' g') : SW 2736 (lwL i) z g := by
  refine hc 20 _ _ _ _ fun _ _ => ?_
  clear hc
  simp only [pvSt2]
  simp only [pvE_aload_n1, pvLA_s, pvLd, pvE_invokestatic (h0 := eL_282), pvC1_s, pvC2_s, pvAf_v, pvAf_x, pvPop, pvCs, pvCat, pvPush, aL_law_282, pvE_istore, pvS1, List.length_cons, List.length_nil, pvClr_i, pvClr_r, pvClr_l, pvClr_d, pvClr_f, pvClr_n, pvE_aload_n2, pvE_invokevirtual, aL_law_285, pvSh_0, pvSh_39, pvSh_58, pvSh_59, aL_law_150, pvE_iload, pvLI_s, pvE_icmp_eq, pvE_iconst, pvE_ireturn, pvE_goto, bL_law_2736, uL_law_2736, bL_law_2757, uL_law_2757, bL_law_2760, uL_law_2760, pvMk_t, pvMk_f, pvMk_n, pvRecv_r, pvUp_nl, pvUp_same, pvUp_ap, pvSt_ap, pvX_c, pvX_ms, pvX_mn, pvE_nil, pvEn_i, pvEn_r, pvEn_l, pvEn_0, pvEn_s, pvRt, pvRv, pvTh, pvKc, pvGo, pvTgt, Int.toNat_natCast, false_and, and_false, true_and, and_true, if_true, if_false, reduceIte, reduceCtorEq, forall_const, false_or, or_false, true_or, or_true, ne_eq, not_true_eq_false, not_false_eq_true, implies_true, false_implies, Nat.reduceAdd, Nat.reduceSub, Nat.reduceMul, Nat.reduceEqDiff, Nat.reduceLT, Nat.reduceLeDiff, Int.reduceAdd, Int.reduceSub, Int.reduceMul, Int.reduceNeg, Int.reduceToNat, Int.reduceLE, Int.reduceLT, Int.reduceEq, Int.reduceNe, and_self]
  (repeat' first | with_reducible apply And.intro | with_reducible intro _)
  all_goals first
    | omega
    | (refine lc_restore h (fun k z1 R => ?_)
       simp only [pvE_aload_n1, pvLA_s, pvLd, pvE_invokestatic (h0 := eL_282), pvC1_s, pvC2_s, pvAf_v, pvAf_x, pvPop, pvCs, pvCat, pvPush, aL_law_282, pvE_istore, pvS1, List.length_cons, List.length_nil, pvClr_i, pvClr_r, pvClr_l, pvClr_d, pvClr_f, pvClr_n, pvE_aload_n2, pvE_invokevirtual, aL_law_285, pvSh_0, pvSh_39, pvSh_58, pvSh_59, aL_law_150, pvE_iload, pvLI_s, pvE_icmp_eq, pvE_iconst, pvE_ireturn, pvE_goto, bL_law_2736, uL_law_2736, bL_law_2757, uL_law_2757, bL_law_2760, uL_law_2760, pvMk_t, pvMk_f, pvMk_n, pvRecv_r, pvUp_nl, pvUp_same, pvUp_ap, pvSt_ap, pvX_c, pvX_ms, pvX_mn, pvE_nil, pvEn_i, pvEn_r, pvEn_l, pvEn_0, pvEn_s, pvRt, pvRv, pvTh, pvKc, pvGo, pvTgt, Int.toNat_natCast, false_and, and_false, true_and, and_true, if_true, if_false, reduceIte, reduceCtorEq, forall_const, false_or, or_false, true_or, or_true, ne_eq, not_true_eq_false, not_false_eq_true, implies_true, false_implies, Nat.reduceAdd, Nat.reduceSub, Nat.reduceMul, Nat.reduceEqDiff, Nat.reduceLT, Nat.reduceLeDiff, Int.reduceAdd, Int.reduceSub, Int.reduceMul, Int.reduceNeg, Int.reduceToNat, Int.reduceLE, Int.reduceLT, Int.reduceEq, Int.reduceNe, and_self]
       (repeat' first | with_reducible apply And.intro | with_reducible intro _)
       all_goals first
         | omega
         | (refine R _ (fun z2 e8 hI => ?_)
            simp only [C_X10_thrown, e8, pvRt2, pvTh2, pvE_aload_n1, pvLA_s, pvLd, pvE_invokestatic (h0 := eL_282), pvC1_s, pvC2_s, pvAf_v, pvAf_x, pvPop, pvCs, pvCat, pvPush, aL_law_282, pvE_istore, pvS1, List.length_cons, List.length_nil, pvClr_i, pvClr_r, pvClr_l, pvClr_d, pvClr_f, pvClr_n, pvE_aload_n2, pvE_invokevirtual, aL_law_285, pvSh_0, pvSh_39, pvSh_58, pvSh_59, aL_law_150, pvE_iload, pvLI_s, pvE_icmp_eq, pvE_iconst, pvE_ireturn, pvE_goto, bL_law_2736, uL_law_2736, bL_law_2757, uL_law_2757, bL_law_2760, uL_law_2760, pvMk_t, pvMk_f, pvMk_n, pvRecv_r, pvUp_nl, pvUp_same, pvUp_ap, pvSt_ap, pvX_c, pvX_ms, pvX_mn, pvE_nil, pvEn_i, pvEn_r, pvEn_l, pvEn_0, pvEn_s, pvRt, pvRv, pvTh, pvKc, pvGo, pvTgt, Int.toNat_natCast, false_and, and_false, true_and, and_true, if_true, if_false, reduceIte, reduceCtorEq, forall_const, false_or, or_false, true_or, or_true, ne_eq, not_true_eq_false, not_false_eq_true, implies_true, false_implies, Nat.reduceAdd, Nat.reduceSub, Nat.reduceMul, Nat.reduceEqDiff, Nat.reduceLT, Nat.reduceLeDiff, Int.reduceAdd, Int.reduceSub, Int.reduceMul, Int.reduceNeg, Int.reduceToNat, Int.reduceLE, Int.reduceLT, Int.reduceEq, Int.reduceNe, and_self]
            (repeat' first | with_reducible apply And.intro | with_reducible intro _)
            all_goals first
              | omega
              | contradiction
              | (exact nx _ _ (by omega) hI)
              | (exact ef)
              | (rename k = 0 => k0; have eb1 := eb k0; exact eb1.2.1)
              | (rename k = 0 => k0; have eb1 := eb k0; exact eb1.2.2)
              | (rename k = 0 => k0; have eb1 := eb k0; rw [eb1.1]; first | exact eb1.2.1 | exact eb1.2.2)
              | (rename ¬ k ≠ 0 => k0; have eb1 := eb (by omega); first | exact eb1.2.1 | exact eb1.2.2 | (rw [eb1.1]; first | exact eb1.2.1 | exact eb1.2.2) | (rw [eb1]; split <;> omega))
              | (exfalso; have eb1 := eb (by omega); simp only [eb1] at *; rename ¬ (_ : Int) = 0 => q9; exact q9 (by rw [dcmp_s ef]; rfl))
              | (exfalso; have eb1 := eb (by omega); simp only [eb1] at *; simp_all; done)
              | (exfalso; have eb1 := (eb (by omega)).1; simp only [eb1] at *; simp_all; done)))
