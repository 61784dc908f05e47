/-! the law: its cases -/
theorem lw_cl {z : pvM} (h : lwI z) : lwI (pvUp (pvUp (pvUp (pvUp z.1 20 4 0) 20 3 215) 39 8 0) 39 7 0, z.2) := by
  have ff : frF [20, 39] [] z (pvUp (pvUp (pvUp (pvUp z.1 20 4 0) 20 3 215) 39 8 0) 39 7 0, z.2) := by
    (repeat' first | assumption | exact frF_0 | (refine frF_u ?_ (by decide)))
  refine lwI_w (ids := [20, 39]) (jds := []) h ff (by simp) ?_ ⟨wv_0 (by simp [pvUp]) (by simp [pvUp]), by simp [pvUp], fun j hj => ?_⟩ (pz_m h.2.2.2.2.2.1 ff (by simp)) ?_
  · intro j hj
    rcases hj with rfl | rfl | rfl | rfl <;> simp [pvUp]
  · simp [pvUp] at hj
    omega
  · obtain ⟨L, hL⟩ := h.2.2.2.2.2.2.1
    exact ⟨L, quF_e hL (ff.1 28 (by decide)) (ff.1 29 (by decide)) (ff.1 30 (by decide))⟩
set_option maxRecDepth 100000 in
set_option maxHeartbeats 4000000 in
theorem lw_0 {sc : Nat × (Nat → Int)} {Gm : Nat} {Q : pvO → pvM → Prop} {SW : Nat → pvL → pvM → Nat → Prop} (hc : pvCl2 sc Gm fL aL_law kL eL (some .boolean) bL_law uL_law Q SW) {z : pvM} {i : Int} {g : Nat} (h : lwI z) (hi : 0 ≤ i ∧ i + 5 ≤ sc.1 ∧ (sc.1 : Int) ≤ 2147483647) (hg : g + 2 ≤ Gm)
    (nx : ∀ (z' : pvM) (g' : Nat), g' ≤ g + 1 → lwI z' → SW 2760 (lwL i) z' g') : SW 224 (lwL i) z g := by
  refine hc 20 _ _ _ _ fun _ _ => ?_
  clear hc
  simp only [pvSt2]
  simp only [pvE_aload_n1, pvLA_s, pvLd, pvE_aload_n0, pvE_iload, pvLI_s, pvE_iconst, pvE_iadd, pvE_iaload, pvAI, pvSh_0, pvSh_39, pvSh_58, pvSh_59, pvE_aload_n3, pvE_invokestatic (h0 := eL_144), pvC1_s, pvC2_s, pvAf_v, pvAf_x, pvPop, pvCs, pvCat, pvPush, aL_law_144, pvE_istore, pvS1, List.length_cons, List.length_nil, pvClr_i, pvClr_r, pvClr_l, pvClr_d, pvClr_f, pvClr_n, pvE_aload_n2, pvE_invokevirtual, aL_law_149, aL_law_150, pvE_icmp_eq, pvE_ireturn, pvE_if_ne, pvE_laload, pvAL, pvE_i2l, pvE_lcmp, pvE_if_eq, pvE_goto, bL_law_224, uL_law_224, bL_law_260, uL_law_260, bL_law_277, uL_law_277, bL_law_2760, uL_law_2760, pvMk_t, pvMk_f, pvMk_n, pvRecv_r, pvUp_nl, pvUp_same, pvUp_ap, pvSt_ap, pvX_c, pvX_ms, pvX_mn, pvE_nil, pvEn_i, pvEn_r, pvEn_l, pvEn_0, pvEn_s, pvRt, pvRv, pvTh, pvKc, pvGo, pvTgt, Int.toNat_natCast, false_and, and_false, true_and, and_true, if_true, if_false, reduceIte, reduceCtorEq, forall_const, false_or, or_false, true_or, or_true, ne_eq, not_true_eq_false, not_false_eq_true, implies_true, false_implies, Nat.reduceAdd, Nat.reduceSub, Nat.reduceMul, Nat.reduceEqDiff, Nat.reduceLT, Nat.reduceLeDiff, Int.reduceAdd, Int.reduceSub, Int.reduceMul, Int.reduceNeg, Int.reduceToNat, Int.reduceLE, Int.reduceLT, Int.reduceEq, Int.reduceNe, and_self]
  (repeat' first | with_reducible apply And.intro | with_reducible intro _)
  all_goals first
    | omega
    | (refine lc_appendCharacter h (fun k z1 R => ?_)
       simp only [pvE_aload_n1, pvLA_s, pvLd, pvE_aload_n0, pvE_iload, pvLI_s, pvE_iconst, pvE_iadd, pvE_iaload, pvAI, pvSh_0, pvSh_39, pvSh_58, pvSh_59, pvE_aload_n3, pvE_invokestatic (h0 := eL_144), pvC1_s, pvC2_s, pvAf_v, pvAf_x, pvPop, pvCs, pvCat, pvPush, aL_law_144, pvE_istore, pvS1, List.length_cons, List.length_nil, pvClr_i, pvClr_r, pvClr_l, pvClr_d, pvClr_f, pvClr_n, pvE_aload_n2, pvE_invokevirtual, aL_law_149, aL_law_150, pvE_icmp_eq, pvE_ireturn, pvE_if_ne, pvE_laload, pvAL, pvE_i2l, pvE_lcmp, pvE_if_eq, pvE_goto, bL_law_224, uL_law_224, bL_law_260, uL_law_260, bL_law_277, uL_law_277, bL_law_2760, uL_law_2760, pvMk_t, pvMk_f, pvMk_n, pvRecv_r, pvUp_nl, pvUp_same, pvUp_ap, pvSt_ap, pvX_c, pvX_ms, pvX_mn, pvE_nil, pvEn_i, pvEn_r, pvEn_l, pvEn_0, pvEn_s, pvRt, pvRv, pvTh, pvKc, pvGo, pvTgt, Int.toNat_natCast, false_and, and_false, true_and, and_true, if_true, if_false, reduceIte, reduceCtorEq, forall_const, false_or, or_false, true_or, or_true, ne_eq, not_true_eq_false, not_false_eq_true, implies_true, false_implies, Nat.reduceAdd, Nat.reduceSub, Nat.reduceMul, Nat.reduceEqDiff, Nat.reduceLT, Nat.reduceLeDiff, Int.reduceAdd, Int.reduceSub, Int.reduceMul, Int.reduceNeg, Int.reduceToNat, Int.reduceLE, Int.reduceLT, Int.reduceEq, Int.reduceNe, and_self]
       (repeat' first | with_reducible apply And.intro | with_reducible intro _)
       all_goals first
         | omega
         | (refine R _ (fun b z2 e8 eb hI => ?_)
            simp only [C_X10_thrown, e8, pvRt2, pvTh2, pvE_aload_n1, pvLA_s, pvLd, pvE_aload_n0, pvE_iload, pvLI_s, pvE_iconst, pvE_iadd, pvE_iaload, pvAI, pvSh_0, pvSh_39, pvSh_58, pvSh_59, pvE_aload_n3, pvE_invokestatic (h0 := eL_144), pvC1_s, pvC2_s, pvAf_v, pvAf_x, pvPop, pvCs, pvCat, pvPush, aL_law_144, pvE_istore, pvS1, List.length_cons, List.length_nil, pvClr_i, pvClr_r, pvClr_l, pvClr_d, pvClr_f, pvClr_n, pvE_aload_n2, pvE_invokevirtual, aL_law_149, aL_law_150, pvE_icmp_eq, pvE_ireturn, pvE_if_ne, pvE_laload, pvAL, pvE_i2l, pvE_lcmp, pvE_if_eq, pvE_goto, bL_law_224, uL_law_224, bL_law_260, uL_law_260, bL_law_277, uL_law_277, bL_law_2760, uL_law_2760, pvMk_t, pvMk_f, pvMk_n, pvRecv_r, pvUp_nl, pvUp_same, pvUp_ap, pvSt_ap, pvX_c, pvX_ms, pvX_mn, pvE_nil, pvEn_i, pvEn_r, pvEn_l, pvEn_0, pvEn_s, pvRt, pvRv, pvTh, pvKc, pvGo, pvTgt, Int.toNat_natCast, false_and, and_false, true_and, and_true, if_true, if_false, reduceIte, reduceCtorEq, forall_const, false_or, or_false, true_or, or_true, ne_eq, not_true_eq_false, not_false_eq_true, implies_true, false_implies, Nat.reduceAdd, Nat.reduceSub, Nat.reduceMul, Nat.reduceEqDiff, Nat.reduceLT, Nat.reduceLeDiff, Int.reduceAdd, Int.reduceSub, Int.reduceMul, Int.reduceNeg, Int.reduceToNat, Int.reduceLE, Int.reduceLT, Int.reduceEq, Int.reduceNe, and_self]
            (repeat' first | with_reducible apply And.intro | with_reducible intro _)
            all_goals first
              | omega
              | contradiction
              | (exact nx _ _ (by omega) hI)
              | (exact ef)
              | (rename k = 0 => k0; have eb1 := eb k0; exact eb1.2.1)
              | (rename k = 0 => k0; have eb1 := eb k0; exact eb1.2.2)
              | (rename k = 0 => k0; have eb1 := eb k0; rw [eb1.1]; first | exact eb1.2.1 | exact eb1.2.2)
              | (rename ¬ k ≠ 0 => k0; have eb1 := eb (by omega); first | exact eb1.2.1 | exact eb1.2.2 | (rw [eb1.1]; first | exact eb1.2.1 | exact eb1.2.2) | (rw [eb1]; split <;> omega))
              | (exfalso; have eb1 := eb (by omega); simp only [eb1] at *; simp_all)
              | (exfalso; have eb1 := (eb (by omega)).1; simp only [eb1] at *; simp_all)))
set_option maxRecDepth 100000 in
set_option maxHeartbeats 4000000 in
theorem lw_1 {sc : Nat × (Nat → Int)} {Gm : Nat} {Q : pvO → pvM → Prop} {SW : Nat → pvL → pvM → Nat → Prop} (hc : pvCl2 sc Gm fL aL_law kL eL (some .boolean) bL_law uL_law Q SW) {z : pvM} {i : Int} {g : Nat} (h : lwI z) (hi : 0 ≤ i ∧ i + 5 ≤ sc.1 ∧ (sc.1 : Int) ≤ 2147483647) (hg : g + 2 ≤ Gm)
    (nx : ∀ (z' : pvM) (g' : Nat), g' ≤ g + 1 → lwI z' → SW 2760 (lwL i) z' g') : SW 280 (lwL i) z g := by
  refine hc 20 _ _ _ _ fun _ _ => ?_
  clear hc
  simp only [pvSt2]
  have t4 : z.1 17 4 = z.1 39 12 := h.2.1.1.2.1
  have t7 : z.1 20 4 = z.1 39 7 := h.2.2.1.2.1
  simp only [C_X9_faultPosition, C_X10_faultPosition, pvRt2, pvTh2, ne_eq, pvE_aload_n1, pvLA_s, pvLd, pvE_invokevirtual, pvC1_s, pvC2_s, pvAf_v, pvAf_x, pvPop, pvCs, pvCat, pvPush, aL_law_153, pvSh_0, pvSh_39, pvSh_58, pvSh_59, pvE_aload_n2, aL_law_156, pvE_icmp_eq, pvE_iconst, pvE_ireturn, bL_law_280, uL_law_280, bL_law_2760, uL_law_2760, pvMk_t, pvMk_f, pvMk_n, pvRecv_r, pvUp_nl, pvUp_same, pvUp_ap, pvSt_ap, pvX_c, pvX_ms, pvX_mn, pvE_nil, pvEn_i, pvEn_r, pvEn_l, pvEn_0, pvEn_s, pvRt, pvRv, pvTh, pvKc, pvGo, pvTgt, Int.toNat_natCast, false_and, and_false, true_and, and_true, if_true, if_false, reduceIte, reduceCtorEq, forall_const, false_or, or_false, true_or, or_true, ne_eq, not_true_eq_false, not_false_eq_true, implies_true, false_implies, Nat.reduceAdd, Nat.reduceSub, Nat.reduceMul, Nat.reduceEqDiff, Nat.reduceLT, Nat.reduceLeDiff, Int.reduceAdd, Int.reduceSub, Int.reduceMul, Int.reduceNeg, Int.reduceToNat, Int.reduceLE, Int.reduceLT, Int.reduceEq, Int.reduceNe, and_self]
  (repeat' first | with_reducible apply And.intro | with_reducible intro _)
  all_goals first
    | omega
    | contradiction
    | (exact nx _ _ (by omega) (lwI_u h))
set_option maxRecDepth 100000 in
set_option maxHeartbeats 4000000 in
theorem lw_2 {sc : Nat × (Nat → Int)} {Gm : Nat} {Q : pvO → pvM → Prop} {SW : Nat → pvL → pvM → Nat → Prop} (hc : pvCl2 sc Gm fL aL_law kL eL (some .boolean) bL_law uL_law Q SW) {z : pvM} {i : Int} {g : Nat} (h : lwI z) (hi : 0 ≤ i ∧ i + 5 ≤ sc.1 ∧ (sc.1 : Int) ≤ 2147483647) (hg : g + 2 ≤ Gm)
    (nx : ∀ (z' : pvM) (g' : Nat), g' ≤ g + 1 → lwI z' → SW 2760 (lwL i) z' g') : SW 293 (lwL i) z g := by
  refine hc 20 _ _ _ _ fun _ _ => ?_
  clear hc
  simp only [pvSt2]
  simp only [pvE_aload_n1, pvLA_s, pvLd, pvE_aload_n0, pvE_iload, pvLI_s, pvE_iconst, pvE_iadd, pvE_iaload, pvAI, pvSh_0, pvSh_39, pvSh_58, pvSh_59, pvE_aload_n3, pvE_invokestatic (h0 := eL_157), pvC1_s, pvC2_s, pvAf_v, pvAf_x, pvPop, pvCs, pvCat, pvPush, aL_law_157, pvE_istore, pvS1, List.length_cons, List.length_nil, pvClr_i, pvClr_r, pvClr_l, pvClr_d, pvClr_f, pvClr_n, pvE_aload_n2, pvE_invokevirtual, aL_law_160, aL_law_150, pvE_icmp_eq, pvE_ireturn, pvE_if_ne, pvE_laload, pvAL, pvE_i2l, pvE_lcmp, pvE_if_eq, pvE_goto, bL_law_293, uL_law_293, bL_law_365, uL_law_365, bL_law_382, uL_law_382, bL_law_2760, uL_law_2760, pvMk_t, pvMk_f, pvMk_n, pvRecv_r, pvUp_nl, pvUp_same, pvUp_ap, pvSt_ap, pvX_c, pvX_ms, pvX_mn, pvE_nil, pvEn_i, pvEn_r, pvEn_l, pvEn_0, pvEn_s, pvRt, pvRv, pvTh, pvKc, pvGo, pvTgt, Int.toNat_natCast, false_and, and_false, true_and, and_true, if_true, if_false, reduceIte, reduceCtorEq, forall_const, false_or, or_false, true_or, or_true, ne_eq, not_true_eq_false, not_false_eq_true, implies_true, false_implies, Nat.reduceAdd, Nat.reduceSub, Nat.reduceMul, Nat.reduceEqDiff, Nat.reduceLT, Nat.reduceLeDiff, Int.reduceAdd, Int.reduceSub, Int.reduceMul, Int.reduceNeg, Int.reduceToNat, Int.reduceLE, Int.reduceLT, Int.reduceEq, Int.reduceNe, and_self]
  (repeat' first | with_reducible apply And.intro | with_reducible intro _)
  all_goals first
    | omega
    | (refine lc_addTransition h (fun k z1 R => ?_)
       simp only [pvE_aload_n1, pvLA_s, pvLd, pvE_aload_n0, pvE_iload, pvLI_s, pvE_iconst, pvE_iadd, pvE_iaload, pvAI, pvSh_0, pvSh_39, pvSh_58, pvSh_59, pvE_aload_n3, pvE_invokestatic (h0 := eL_157), pvC1_s, pvC2_s, pvAf_v, pvAf_x, pvPop, pvCs, pvCat, pvPush, aL_law_157, pvE_istore, pvS1, List.length_cons, List.length_nil, pvClr_i, pvClr_r, pvClr_l, pvClr_d, pvClr_f, pvClr_n, pvE_aload_n2, pvE_invokevirtual, aL_law_160, aL_law_150, pvE_icmp_eq, pvE_ireturn, pvE_if_ne, pvE_laload, pvAL, pvE_i2l, pvE_lcmp, pvE_if_eq, pvE_goto, bL_law_293, uL_law_293, bL_law_365, uL_law_365, bL_law_382, uL_law_382, bL_law_2760, uL_law_2760, pvMk_t, pvMk_f, pvMk_n, pvRecv_r, pvUp_nl, pvUp_same, pvUp_ap, pvSt_ap, pvX_c, pvX_ms, pvX_mn, pvE_nil, pvEn_i, pvEn_r, pvEn_l, pvEn_0, pvEn_s, pvRt, pvRv, pvTh, pvKc, pvGo, pvTgt, Int.toNat_natCast, false_and, and_false, true_and, and_true, if_true, if_false, reduceIte, reduceCtorEq, forall_const, false_or, or_false, true_or, or_true, ne_eq, not_true_eq_false, not_false_eq_true, implies_true, false_implies, Nat.reduceAdd, Nat.reduceSub, Nat.reduceMul, Nat.reduceEqDiff, Nat.reduceLT, Nat.reduceLeDiff, Int.reduceAdd, Int.reduceSub, Int.reduceMul, Int.reduceNeg, Int.reduceToNat, Int.reduceLE, Int.reduceLT, Int.reduceEq, Int.reduceNe, and_self]
       (repeat' first | with_reducible apply And.intro | with_reducible intro _)
       all_goals first
         | omega
         | (refine R _ (fun b z2 e8 eb hI => ?_)
            simp only [C_X10_thrown, e8, pvRt2, pvTh2, pvE_aload_n1, pvLA_s, pvLd, pvE_aload_n0, pvE_iload, pvLI_s, pvE_iconst, pvE_iadd, pvE_iaload, pvAI, pvSh_0, pvSh_39, pvSh_58, pvSh_59, pvE_aload_n3, pvE_invokestatic (h0 := eL_157), pvC1_s, pvC2_s, pvAf_v, pvAf_x, pvPop, pvCs, pvCat, pvPush, aL_law_157, pvE_istore, pvS1, List.length_cons, List.length_nil, pvClr_i, pvClr_r, pvClr_l, pvClr_d, pvClr_f, pvClr_n, pvE_aload_n2, pvE_invokevirtual, aL_law_160, aL_law_150, pvE_icmp_eq, pvE_ireturn, pvE_if_ne, pvE_laload, pvAL, pvE_i2l, pvE_lcmp, pvE_if_eq, pvE_goto, bL_law_293, uL_law_293, bL_law_365, uL_law_365, bL_law_382, uL_law_382, bL_law_2760, uL_law_2760, pvMk_t, pvMk_f, pvMk_n, pvRecv_r, pvUp_nl, pvUp_same, pvUp_ap, pvSt_ap, pvX_c, pvX_ms, pvX_mn, pvE_nil, pvEn_i, pvEn_r, pvEn_l, pvEn_0, pvEn_s, pvRt, pvRv, pvTh, pvKc, pvGo, pvTgt, Int.toNat_natCast, false_and, and_false, true_and, and_true, if_true, if_false, reduceIte, reduceCtorEq, forall_const, false_or, or_false, true_or, or_true, ne_eq, not_true_eq_false, not_false_eq_true, implies_true, false_implies, Nat.reduceAdd, Nat.reduceSub, Nat.reduceMul, Nat.reduceEqDiff, Nat.reduceLT, Nat.reduceLeDiff, Int.reduceAdd, Int.reduceSub, Int.reduceMul, Int.reduceNeg, Int.reduceToNat, Int.reduceLE, Int.reduceLT, Int.reduceEq, Int.reduceNe, and_self]
            (repeat' first | with_reducible apply And.intro | with_reducible intro _)
            all_goals first
              | omega
              | contradiction
              | (exact nx _ _ (by omega) hI)
              | (exact ef)
              | (rename k = 0 => k0; have eb1 := eb k0; exact eb1.2.1)
              | (rename k = 0 => k0; have eb1 := eb k0; exact eb1.2.2)
              | (rename k = 0 => k0; have eb1 := eb k0; rw [eb1.1]; first | exact eb1.2.1 | exact eb1.2.2)
              | (rename ¬ k ≠ 0 => k0; have eb1 := eb (by omega); first | exact eb1.2.1 | exact eb1.2.2 | (rw [eb1.1]; first | exact eb1.2.1 | exact eb1.2.2) | (rw [eb1]; split <;> omega))
              | (exfalso; have eb1 := eb (by omega); simp only [eb1] at *; simp_all)
              | (exfalso; have eb1 := (eb (by omega)).1; simp only [eb1] at *; simp_all)))
set_option maxRecDepth 100000 in
set_option maxHeartbeats 4000000 in
theorem lw_3 {sc : Nat × (Nat → Int)} {Gm : Nat} {Q : pvO → pvM → Prop} {SW : Nat → pvL → pvM → Nat → Prop} (hc : pvCl2 sc Gm fL aL_law kL eL (some .boolean) bL_law uL_law Q SW) {z : pvM} {i : Int} {g : Nat} (h : lwI z) (hi : 0 ≤ i ∧ i + 5 ≤ sc.1 ∧ (sc.1 : Int) ≤ 2147483647) (hg : g + 2 ≤ Gm)
    (nx : ∀ (z' : pvM) (g' : Nat), g' ≤ g + 1 → lwI z' → SW 2760 (lwL i) z' g') : SW 385 (lwL i) z g := by
  refine hc 20 _ _ _ _ fun _ _ => ?_
  clear hc
  simp only [pvSt2]
  simp only [pvE_aload_n1, pvLA_s, pvLd, pvE_aload_n0, pvE_iload, pvLI_s, pvE_iconst, pvE_iadd, pvE_iaload, pvAI, pvSh_0, pvSh_39, pvSh_58, pvSh_59, pvE_aload_n3, pvE_invokestatic (h0 := eL_161), pvC1_s, pvC2_s, pvAf_v, pvAf_x, pvPop, pvCs, pvCat, pvPush, aL_law_161, pvE_istore, pvS1, List.length_cons, List.length_nil, pvClr_i, pvClr_r, pvClr_l, pvClr_d, pvClr_f, pvClr_n, pvE_aload_n2, pvE_invokevirtual, aL_law_164, aL_law_150, pvE_icmp_eq, pvE_ireturn, pvE_if_ne, pvE_laload, pvAL, pvE_i2l, pvE_lcmp, pvE_if_eq, pvE_goto, bL_law_385, uL_law_385, bL_law_433, uL_law_433, bL_law_450, uL_law_450, bL_law_2760, uL_law_2760, pvMk_t, pvMk_f, pvMk_n, pvRecv_r, pvUp_nl, pvUp_same, pvUp_ap, pvSt_ap, pvX_c, pvX_ms, pvX_mn, pvE_nil, pvEn_i, pvEn_r, pvEn_l, pvEn_0, pvEn_s, pvRt, pvRv, pvTh, pvKc, pvGo, pvTgt, Int.toNat_natCast, false_and, and_false, true_and, and_true, if_true, if_false, reduceIte, reduceCtorEq, forall_const, false_or, or_false, true_or, or_true, ne_eq, not_true_eq_false, not_false_eq_true, implies_true, false_implies, Nat.reduceAdd, Nat.reduceSub, Nat.reduceMul, Nat.reduceEqDiff, Nat.reduceLT, Nat.reduceLeDiff, Int.reduceAdd, Int.reduceSub, Int.reduceMul, Int.reduceNeg, Int.reduceToNat, Int.reduceLE, Int.reduceLT, Int.reduceEq, Int.reduceNe, and_self]
  (repeat' first | with_reducible apply And.intro | with_reducible intro _)
  all_goals first
    | omega
    | (refine lc_removeTransition h (fun k z1 R => ?_)
       simp only [pvE_aload_n1, pvLA_s, pvLd, pvE_aload_n0, pvE_iload, pvLI_s, pvE_iconst, pvE_iadd, pvE_iaload, pvAI, pvSh_0, pvSh_39, pvSh_58, pvSh_59, pvE_aload_n3, pvE_invokestatic (h0 := eL_161), pvC1_s, pvC2_s, pvAf_v, pvAf_x, pvPop, pvCs, pvCat, pvPush, aL_law_161, pvE_istore, pvS1, List.length_cons, List.length_nil, pvClr_i, pvClr_r, pvClr_l, pvClr_d, pvClr_f, pvClr_n, pvE_aload_n2, pvE_invokevirtual, aL_law_164, aL_law_150, pvE_icmp_eq, pvE_ireturn, pvE_if_ne, pvE_laload, pvAL, pvE_i2l, pvE_lcmp, pvE_if_eq, pvE_goto, bL_law_385, uL_law_385, bL_law_433, uL_law_433, bL_law_450, uL_law_450, bL_law_2760, uL_law_2760, pvMk_t, pvMk_f, pvMk_n, pvRecv_r, pvUp_nl, pvUp_same, pvUp_ap, pvSt_ap, pvX_c, pvX_ms, pvX_mn, pvE_nil, pvEn_i, pvEn_r, pvEn_l, pvEn_0, pvEn_s, pvRt, pvRv, pvTh, pvKc, pvGo, pvTgt, Int.toNat_natCast, false_and, and_false, true_and, and_true, if_true, if_false, reduceIte, reduceCtorEq, forall_const, false_or, or_false, true_or, or_true, ne_eq, not_true_eq_false, not_false_eq_true, implies_true, false_implies, Nat.reduceAdd, Nat.reduceSub, Nat.reduceMul, Nat.reduceEqDiff, Nat.reduceLT, Nat.reduceLeDiff, Int.reduceAdd, Int.reduceSub, Int.reduceMul, Int.reduceNeg, Int.reduceToNat, Int.reduceLE, Int.reduceLT, Int.reduceEq, Int.reduceNe, and_self]
       (repeat' first | with_reducible apply And.intro | with_reducible intro _)
       all_goals first
         | omega
         | (refine R _ (fun b z2 e8 eb hI => ?_)
            simp only [C_X10_thrown, e8, pvRt2, pvTh2, pvE_aload_n1, pvLA_s, pvLd, pvE_aload_n0, pvE_iload, pvLI_s, pvE_iconst, pvE_iadd, pvE_iaload, pvAI, pvSh_0, pvSh_39, pvSh_58, pvSh_59, pvE_aload_n3, pvE_invokestatic (h0 := eL_161), pvC1_s, pvC2_s, pvAf_v, pvAf_x, pvPop, pvCs, pvCat, pvPush, aL_law_161, pvE_istore, pvS1, List.length_cons, List.length_nil, pvClr_i, pvClr_r, pvClr_l, pvClr_d, pvClr_f, pvClr_n, pvE_aload_n2, pvE_invokevirtual, aL_law_164, aL_law_150, pvE_icmp_eq, pvE_ireturn, pvE_if_ne, pvE_laload, pvAL, pvE_i2l, pvE_lcmp, pvE_if_eq, pvE_goto, bL_law_385, uL_law_385, bL_law_433, uL_law_433, bL_law_450, uL_law_450, bL_law_2760, uL_law_2760, pvMk_t, pvMk_f, pvMk_n, pvRecv_r, pvUp_nl, pvUp_same, pvUp_ap, pvSt_ap, pvX_c, pvX_ms, pvX_mn, pvE_nil, pvEn_i, pvEn_r, pvEn_l, pvEn_0, pvEn_s, pvRt, pvRv, pvTh, pvKc, pvGo, pvTgt, Int.toNat_natCast, false_and, and_false, true_and, and_true, if_true, if_false, reduceIte, reduceCtorEq, forall_const, false_or, or_false, true_or, or_true, ne_eq, not_true_eq_false, not_false_eq_true, implies_true, false_implies, Nat.reduceAdd, Nat.reduceSub, Nat.reduceMul, Nat.reduceEqDiff, Nat.reduceLT, Nat.reduceLeDiff, Int.reduceAdd, Int.reduceSub, Int.reduceMul, Int.reduceNeg, Int.reduceToNat, Int.reduceLE, Int.reduceLT, Int.reduceEq, Int.reduceNe, and_self]
            (repeat' first | with_reducible apply And.intro | with_reducible intro _)
            all_goals first
              | omega
              | contradiction
              | (exact nx _ _ (by omega) hI)
              | (exact ef)
              | (rename k = 0 => k0; have eb1 := eb k0; exact eb1.2.1)
              | (rename k = 0 => k0; have eb1 := eb k0; exact eb1.2.2)
              | (rename k = 0 => k0; have eb1 := eb k0; rw [eb1.1]; first | exact eb1.2.1 | exact eb1.2.2)
              | (rename ¬ k ≠ 0 => k0; have eb1 := eb (by omega); first | exact eb1.2.1 | exact eb1.2.2 | (rw [eb1.1]; first | exact eb1.2.1 | exact eb1.2.2) | (rw [eb1]; split <;> omega))
              | (exfalso; have eb1 := eb (by omega); simp only [eb1] at *; simp_all)
              | (exfalso; have eb1 := (eb (by omega)).1; simp only [eb1] at *; simp_all)))
set_option maxRecDepth 100000 in
set_option maxHeartbeats 4000000 in
theorem lw_4 {sc : Nat × (Nat → Int)} {Gm : Nat} {Q : pvO → pvM → Prop} {SW : Nat → pvL → pvM → Nat → Prop} (hc : pvCl2 sc Gm fL aL_law kL eL (some .boolean) bL_law uL_law Q SW) {z : pvM} {i : Int} {g : Nat} (h : lwI z) (hi : 0 ≤ i ∧ i + 5 ≤ sc.1 ∧ (sc.1 : Int) ≤ 2147483647) (hg : g + 2 ≤ Gm)
    (nx : ∀ (z' : pvM) (g' : Nat), g' ≤ g + 1 → lwI z' → SW 2760 (lwL i) z' g') : SW 453 (lwL i) z g := by
  refine hc 20 _ _ _ _ fun _ _ => ?_
  clear hc
  simp only [pvSt2]
  simp only [pvE_aload_n1, pvLA_s, pvLd, pvE_aload_n0, pvE_iload, pvLI_s, pvE_iconst, pvE_iadd, pvE_iaload, pvAI, pvSh_0, pvSh_39, pvSh_58, pvSh_59, pvE_if_eq, pvE_goto, pvE_aload_n3, pvE_invokestatic (h0 := eL_165), pvC1_s, pvC2_s, pvAf_v, pvAf_x, pvPop, pvCs, pvCat, pvPush, aL_law_165, pvE_istore, pvS1, List.length_cons, List.length_nil, pvClr_i, pvClr_r, pvClr_l, pvClr_d, pvClr_f, pvClr_n, pvE_aload_n2, pvE_invokevirtual, aL_law_168, aL_law_150, pvE_icmp_eq, pvE_ireturn, pvE_if_ne, pvE_laload, pvAL, pvE_lconst1, pvE_lconst0, pvE_lcmp, bL_law_453, uL_law_453, bL_law_479, uL_law_479, bL_law_480, uL_law_480, bL_law_512, uL_law_512, bL_law_513, uL_law_513, bL_law_529, uL_law_529, bL_law_546, uL_law_546, bL_law_547, uL_law_547, bL_law_553, uL_law_553, bL_law_2760, uL_law_2760, pvMk_t, pvMk_f, pvMk_n, pvRecv_r, pvUp_nl, pvUp_same, pvUp_ap, pvSt_ap, pvX_c, pvX_ms, pvX_mn, pvE_nil, pvEn_i, pvEn_r, pvEn_l, pvEn_0, pvEn_s, pvRt, pvRv, pvTh, pvKc, pvGo, pvTgt, Int.toNat_natCast, false_and, and_false, true_and, and_true, if_true, if_false, reduceIte, reduceCtorEq, forall_const, false_or, or_false, true_or, or_true, ne_eq, not_true_eq_false, not_false_eq_true, implies_true, false_implies, Nat.reduceAdd, Nat.reduceSub, Nat.reduceMul, Nat.reduceEqDiff, Nat.reduceLT, Nat.reduceLeDiff, Int.reduceAdd, Int.reduceSub, Int.reduceMul, Int.reduceNeg, Int.reduceToNat, Int.reduceLE, Int.reduceLT, Int.reduceEq, Int.reduceNe, and_self]
  (repeat' first | with_reducible apply And.intro | with_reducible intro _)
  all_goals first
    | omega
    | (refine lc_setInitial h (by first | exact Or.inl rfl | exact Or.inr rfl) (fun k z1 R => ?_)
       simp only [pvE_aload_n1, pvLA_s, pvLd, pvE_aload_n0, pvE_iload, pvLI_s, pvE_iconst, pvE_iadd, pvE_iaload, pvAI, pvSh_0, pvSh_39, pvSh_58, pvSh_59, pvE_if_eq, pvE_goto, pvE_aload_n3, pvE_invokestatic (h0 := eL_165), pvC1_s, pvC2_s, pvAf_v, pvAf_x, pvPop, pvCs, pvCat, pvPush, aL_law_165, pvE_istore, pvS1, List.length_cons, List.length_nil, pvClr_i, pvClr_r, pvClr_l, pvClr_d, pvClr_f, pvClr_n, pvE_aload_n2, pvE_invokevirtual, aL_law_168, aL_law_150, pvE_icmp_eq, pvE_ireturn, pvE_if_ne, pvE_laload, pvAL, pvE_lconst1, pvE_lconst0, pvE_lcmp, bL_law_453, uL_law_453, bL_law_479, uL_law_479, bL_law_480, uL_law_480, bL_law_512, uL_law_512, bL_law_513, uL_law_513, bL_law_529, uL_law_529, bL_law_546, uL_law_546, bL_law_547, uL_law_547, bL_law_553, uL_law_553, bL_law_2760, uL_law_2760, pvMk_t, pvMk_f, pvMk_n, pvRecv_r, pvUp_nl, pvUp_same, pvUp_ap, pvSt_ap, pvX_c, pvX_ms, pvX_mn, pvE_nil, pvEn_i, pvEn_r, pvEn_l, pvEn_0, pvEn_s, pvRt, pvRv, pvTh, pvKc, pvGo, pvTgt, Int.toNat_natCast, false_and, and_false, true_and, and_true, if_true, if_false, reduceIte, reduceCtorEq, forall_const, false_or, or_false, true_or, or_true, ne_eq, not_true_eq_false, not_false_eq_true, implies_true, false_implies, Nat.reduceAdd, Nat.reduceSub, Nat.reduceMul, Nat.reduceEqDiff, Nat.reduceLT, Nat.reduceLeDiff, Int.reduceAdd, Int.reduceSub, Int.reduceMul, Int.reduceNeg, Int.reduceToNat, Int.reduceLE, Int.reduceLT, Int.reduceEq, Int.reduceNe, and_self]
       (repeat' first | with_reducible apply And.intro | with_reducible intro _)
       all_goals first
         | omega
         | (refine R _ (fun b z2 e8 eb hI => ?_)
            simp only [C_X10_thrown, e8, pvRt2, pvTh2, pvE_aload_n1, pvLA_s, pvLd, pvE_aload_n0, pvE_iload, pvLI_s, pvE_iconst, pvE_iadd, pvE_iaload, pvAI, pvSh_0, pvSh_39, pvSh_58, pvSh_59, pvE_if_eq, pvE_goto, pvE_aload_n3, pvE_invokestatic (h0 := eL_165), pvC1_s, pvC2_s, pvAf_v, pvAf_x, pvPop, pvCs, pvCat, pvPush, aL_law_165, pvE_istore, pvS1, List.length_cons, List.length_nil, pvClr_i, pvClr_r, pvClr_l, pvClr_d, pvClr_f, pvClr_n, pvE_aload_n2, pvE_invokevirtual, aL_law_168, aL_law_150, pvE_icmp_eq, pvE_ireturn, pvE_if_ne, pvE_laload, pvAL, pvE_lconst1, pvE_lconst0, pvE_lcmp, bL_law_453, uL_law_453, bL_law_479, uL_law_479, bL_law_480, uL_law_480, bL_law_512, uL_law_512, bL_law_513, uL_law_513, bL_law_529, uL_law_529, bL_law_546, uL_law_546, bL_law_547, uL_law_547, bL_law_553, uL_law_553, bL_law_2760, uL_law_2760, pvMk_t, pvMk_f, pvMk_n, pvRecv_r, pvUp_nl, pvUp_same, pvUp_ap, pvSt_ap, pvX_c, pvX_ms, pvX_mn, pvE_nil, pvEn_i, pvEn_r, pvEn_l, pvEn_0, pvEn_s, pvRt, pvRv, pvTh, pvKc, pvGo, pvTgt, Int.toNat_natCast, false_and, and_false, true_and, and_true, if_true, if_false, reduceIte, reduceCtorEq, forall_const, false_or, or_false, true_or, or_true, ne_eq, not_true_eq_false, not_false_eq_true, implies_true, false_implies, Nat.reduceAdd, Nat.reduceSub, Nat.reduceMul, Nat.reduceEqDiff, Nat.reduceLT, Nat.reduceLeDiff, Int.reduceAdd, Int.reduceSub, Int.reduceMul, Int.reduceNeg, Int.reduceToNat, Int.reduceLE, Int.reduceLT, Int.reduceEq, Int.reduceNe, and_self]
            (repeat' first | with_reducible apply And.intro | with_reducible intro _)
            all_goals first
              | omega
              | contradiction
              | (exact nx _ _ (by omega) hI)
              | (exact ef)
              | (rename k = 0 => k0; have eb1 := eb k0; exact eb1.2.1)
              | (rename k = 0 => k0; have eb1 := eb k0; exact eb1.2.2)
              | (rename k = 0 => k0; have eb1 := eb k0; rw [eb1.1]; first | exact eb1.2.1 | exact eb1.2.2)
              | (rename ¬ k ≠ 0 => k0; have eb1 := eb (by omega); first | exact eb1.2.1 | exact eb1.2.2 | (rw [eb1.1]; first | exact eb1.2.1 | exact eb1.2.2) | (rw [eb1]; split <;> omega))
              | (exfalso; have eb1 := eb (by omega); simp only [eb1] at *; simp_all)
              | (exfalso; have eb1 := (eb (by omega)).1; simp only [eb1] at *; simp_all)))
set_option maxRecDepth 100000 in
set_option maxHeartbeats 4000000 in
theorem lw_5 {sc : Nat × (Nat → Int)} {Gm : Nat} {Q : pvO → pvM → Prop} {SW : Nat → pvL → pvM → Nat → Prop} (hc : pvCl2 sc Gm fL aL_law kL eL (some .boolean) bL_law uL_law Q SW) {z : pvM} {i : Int} {g : Nat} (h : lwI z) (hi : 0 ≤ i ∧ i + 5 ≤ sc.1 ∧ (sc.1 : Int) ≤ 2147483647) (hg : g + 2 ≤ Gm)
    (nx : ∀ (z' : pvM) (g' : Nat), g' ≤ g + 1 → lwI z' → SW 2760 (lwL i) z' g') : SW 556 (lwL i) z g := by
  refine hc 20 _ _ _ _ fun _ _ => ?_
  clear hc
  simp only [pvSt2]
  simp only [pvE_aload_n1, pvLA_s, pvLd, pvE_aload_n0, pvE_iload, pvLI_s, pvE_iconst, pvE_iadd, pvE_iaload, pvAI, pvSh_0, pvSh_39, pvSh_58, pvSh_59, pvE_if_eq, pvE_goto, pvE_aload_n3, pvE_invokestatic (h0 := eL_169), pvC1_s, pvC2_s, pvAf_v, pvAf_x, pvPop, pvCs, pvCat, pvPush, aL_law_169, pvE_istore, pvS1, List.length_cons, List.length_nil, pvClr_i, pvClr_r, pvClr_l, pvClr_d, pvClr_f, pvClr_n, pvE_aload_n2, pvE_invokevirtual, aL_law_171, aL_law_150, pvE_icmp_eq, pvE_ireturn, pvE_if_ne, pvE_laload, pvAL, pvE_lconst1, pvE_lconst0, pvE_lcmp, bL_law_556, uL_law_556, bL_law_582, uL_law_582, bL_law_583, uL_law_583, bL_law_615, uL_law_615, bL_law_616, uL_law_616, bL_law_632, uL_law_632, bL_law_649, uL_law_649, bL_law_650, uL_law_650, bL_law_656, uL_law_656, bL_law_2760, uL_law_2760, pvMk_t, pvMk_f, pvMk_n, pvRecv_r, pvUp_nl, pvUp_same, pvUp_ap, pvSt_ap, pvX_c, pvX_ms, pvX_mn, pvE_nil, pvEn_i, pvEn_r, pvEn_l, pvEn_0, pvEn_s, pvRt, pvRv, pvTh, pvKc, pvGo, pvTgt, Int.toNat_natCast, false_and, and_false, true_and, and_true, if_true, if_false, reduceIte, reduceCtorEq, forall_const, false_or, or_false, true_or, or_true, ne_eq, not_true_eq_false, not_false_eq_true, implies_true, false_implies, Nat.reduceAdd, Nat.reduceSub, Nat.reduceMul, Nat.reduceEqDiff, Nat.reduceLT, Nat.reduceLeDiff, Int.reduceAdd, Int.reduceSub, Int.reduceMul, Int.reduceNeg, Int.reduceToNat, Int.reduceLE, Int.reduceLT, Int.reduceEq, Int.reduceNe, and_self]
  (repeat' first | with_reducible apply And.intro | with_reducible intro _)
  all_goals first
    | omega
    | (refine lc_setFinal h (by first | exact Or.inl rfl | exact Or.inr rfl) (fun k z1 R => ?_)
       simp only [pvE_aload_n1, pvLA_s, pvLd, pvE_aload_n0, pvE_iload, pvLI_s, pvE_iconst, pvE_iadd, pvE_iaload, pvAI, pvSh_0, pvSh_39, pvSh_58, pvSh_59, pvE_if_eq, pvE_goto, pvE_aload_n3, pvE_invokestatic (h0 := eL_169), pvC1_s, pvC2_s, pvAf_v, pvAf_x, pvPop, pvCs, pvCat, pvPush, aL_law_169, pvE_istore, pvS1, List.length_cons, List.length_nil, pvClr_i, pvClr_r, pvClr_l, pvClr_d, pvClr_f, pvClr_n, pvE_aload_n2, pvE_invokevirtual, aL_law_171, aL_law_150, pvE_icmp_eq, pvE_ireturn, pvE_if_ne, pvE_laload, pvAL, pvE_lconst1, pvE_lconst0, pvE_lcmp, bL_law_556, uL_law_556, bL_law_582, uL_law_582, bL_law_583, uL_law_583, bL_law_615, uL_law_615, bL_law_616, uL_law_616, bL_law_632, uL_law_632, bL_law_649, uL_law_649, bL_law_650, uL_law_650, bL_law_656, uL_law_656, bL_law_2760, uL_law_2760, pvMk_t, pvMk_f, pvMk_n, pvRecv_r, pvUp_nl, pvUp_same, pvUp_ap, pvSt_ap, pvX_c, pvX_ms, pvX_mn, pvE_nil, pvEn_i, pvEn_r, pvEn_l, pvEn_0, pvEn_s, pvRt, pvRv, pvTh, pvKc, pvGo, pvTgt, Int.toNat_natCast, false_and, and_false, true_and, and_true, if_true, if_false, reduceIte, reduceCtorEq, forall_const, false_or, or_false, true_or, or_true, ne_eq, not_true_eq_false, not_false_eq_true, implies_true, false_implies, Nat.reduceAdd, Nat.reduceSub, Nat.reduceMul, Nat.reduceEqDiff, Nat.reduceLT, Nat.reduceLeDiff, Int.reduceAdd, Int.reduceSub, Int.reduceMul, Int.reduceNeg, Int.reduceToNat, Int.reduceLE, Int.reduceLT, Int.reduceEq, Int.reduceNe, and_self]
       (repeat' first | with_reducible apply And.intro | with_reducible intro _)
       all_goals first
         | omega
         | (refine R _ (fun b z2 e8 eb hI => ?_)
            simp only [C_X10_thrown, e8, pvRt2, pvTh2, pvE_aload_n1, pvLA_s, pvLd, pvE_aload_n0, pvE_iload, pvLI_s, pvE_iconst, pvE_iadd, pvE_iaload, pvAI, pvSh_0, pvSh_39, pvSh_58, pvSh_59, pvE_if_eq, pvE_goto, pvE_aload_n3, pvE_invokestatic (h0 := eL_169), pvC1_s, pvC2_s, pvAf_v, pvAf_x, pvPop, pvCs, pvCat, pvPush, aL_law_169, pvE_istore, pvS1, List.length_cons, List.length_nil, pvClr_i, pvClr_r, pvClr_l, pvClr_d, pvClr_f, pvClr_n, pvE_aload_n2, pvE_invokevirtual, aL_law_171, aL_law_150, pvE_icmp_eq, pvE_ireturn, pvE_if_ne, pvE_laload, pvAL, pvE_lconst1, pvE_lconst0, pvE_lcmp, bL_law_556, uL_law_556, bL_law_582, uL_law_582, bL_law_583, uL_law_583, bL_law_615, uL_law_615, bL_law_616, uL_law_616, bL_law_632, uL_law_632, bL_law_649, uL_law_649, bL_law_650, uL_law_650, bL_law_656, uL_law_656, bL_law_2760, uL_law_2760, pvMk_t, pvMk_f, pvMk_n, pvRecv_r, pvUp_nl, pvUp_same, pvUp_ap, pvSt_ap, pvX_c, pvX_ms, pvX_mn, pvE_nil, pvEn_i, pvEn_r, pvEn_l, pvEn_0, pvEn_s, pvRt, pvRv, pvTh, pvKc, pvGo, pvTgt, Int.toNat_natCast, false_and, and_false, true_and, and_true, if_true, if_false, reduceIte, reduceCtorEq, forall_const, false_or, or_false, true_or, or_true, ne_eq, not_true_eq_false, not_false_eq_true, implies_true, false_implies, Nat.reduceAdd, Nat.reduceSub, Nat.reduceMul, Nat.reduceEqDiff, Nat.reduceLT, Nat.reduceLeDiff, Int.reduceAdd, Int.reduceSub, Int.reduceMul, Int.reduceNeg, Int.reduceToNat, Int.reduceLE, Int.reduceLT, Int.reduceEq, Int.reduceNe, and_self]
            (repeat' first | with_reducible apply And.intro | with_reducible intro _)
            all_goals first
              | omega
              | contradiction
              | (exact nx _ _ (by omega) hI)
              | (exact ef)
              | (rename k = 0 => k0; have eb1 := eb k0; exact eb1.2.1)
              | (rename k = 0 => k0; have eb1 := eb k0; exact eb1.2.2)
              | (rename k = 0 => k0; have eb1 := eb k0; rw [eb1.1]; first | exact eb1.2.1 | exact eb1.2.2)
              | (rename ¬ k ≠ 0 => k0; have eb1 := eb (by omega); first | exact eb1.2.1 | exact eb1.2.2 | (rw [eb1.1]; first | exact eb1.2.1 | exact eb1.2.2) | (rw [eb1]; split <;> omega))
              | (exfalso; have eb1 := eb (by omega); simp only [eb1] at *; simp_all)
              | (exfalso; have eb1 := (eb (by omega)).1; simp only [eb1] at *; simp_all)))
set_option maxRecDepth 100000 in
set_option maxHeartbeats 4000000 in
theorem lw_6 {sc : Nat × (Nat → Int)} {Gm : Nat} {Q : pvO → pvM → Prop} {SW : Nat → pvL → pvM → Nat → Prop} (hc : pvCl2 sc Gm fL aL_law kL eL (some .boolean) bL_law uL_law Q SW) {z : pvM} {i : Int} {g : Nat} (h : lwI z) (hi : 0 ≤ i ∧ i + 5 ≤ sc.1 ∧ (sc.1 : Int) ≤ 2147483647) (hg : g + 2 ≤ Gm)
    (nx : ∀ (z' : pvM) (g' : Nat), g' ≤ g + 1 → lwI z' → SW 2760 (lwL i) z' g') : SW 659 (lwL i) z g := by
  refine hc 20 _ _ _ _ fun _ _ => ?_
  clear hc
  simp only [pvSt2]
  simp only [pvE_aload_n1, pvLA_s, pvLd, pvE_aload_n0, pvE_iload, pvLI_s, pvE_iconst, pvE_iadd, pvE_iaload, pvAI, pvSh_0, pvSh_39, pvSh_58, pvSh_59, pvE_invokestatic (h0 := eL_172), pvC1_s, pvC2_s, pvAf_v, pvAf_x, pvPop, pvCs, pvCat, pvPush, aL_law_172, pvE_istore, pvS1, List.length_cons, List.length_nil, pvClr_i, pvClr_r, pvClr_l, pvClr_d, pvClr_f, pvClr_n, pvE_aload_n2, pvE_invokevirtual, aL_law_175, aL_law_150, pvE_icmp_eq, pvE_ireturn, pvE_goto, bL_law_659, uL_law_659, bL_law_692, uL_law_692, bL_law_2760, uL_law_2760, pvMk_t, pvMk_f, pvMk_n, pvRecv_r, pvUp_nl, pvUp_same, pvUp_ap, pvSt_ap, pvX_c, pvX_ms, pvX_mn, pvE_nil, pvEn_i, pvEn_r, pvEn_l, pvEn_0, pvEn_s, pvRt, pvRv, pvTh, pvKc, pvGo, pvTgt, Int.toNat_natCast, false_and, and_false, true_and, and_true, if_true, if_false, reduceIte, reduceCtorEq, forall_const, false_or, or_false, true_or, or_true, ne_eq, not_true_eq_false, not_false_eq_true, implies_true, false_implies, Nat.reduceAdd, Nat.reduceSub, Nat.reduceMul, Nat.reduceEqDiff, Nat.reduceLT, Nat.reduceLeDiff, Int.reduceAdd, Int.reduceSub, Int.reduceMul, Int.reduceNeg, Int.reduceToNat, Int.reduceLE, Int.reduceLT, Int.reduceEq, Int.reduceNe, and_self]
  (repeat' first | with_reducible apply And.intro | with_reducible intro _)
  all_goals first
    | omega
    | (refine lc_copyAutomaton h (fun k z1 R => ?_)
       simp only [pvE_aload_n1, pvLA_s, pvLd, pvE_aload_n0, pvE_iload, pvLI_s, pvE_iconst, pvE_iadd, pvE_iaload, pvAI, pvSh_0, pvSh_39, pvSh_58, pvSh_59, pvE_invokestatic (h0 := eL_172), pvC1_s, pvC2_s, pvAf_v, pvAf_x, pvPop, pvCs, pvCat, pvPush, aL_law_172, pvE_istore, pvS1, List.length_cons, List.length_nil, pvClr_i, pvClr_r, pvClr_l, pvClr_d, pvClr_f, pvClr_n, pvE_aload_n2, pvE_invokevirtual, aL_law_175, aL_law_150, pvE_icmp_eq, pvE_ireturn, pvE_goto, bL_law_659, uL_law_659, bL_law_692, uL_law_692, bL_law_2760, uL_law_2760, pvMk_t, pvMk_f, pvMk_n, pvRecv_r, pvUp_nl, pvUp_same, pvUp_ap, pvSt_ap, pvX_c, pvX_ms, pvX_mn, pvE_nil, pvEn_i, pvEn_r, pvEn_l, pvEn_0, pvEn_s, pvRt, pvRv, pvTh, pvKc, pvGo, pvTgt, Int.toNat_natCast, false_and, and_false, true_and, and_true, if_true, if_false, reduceIte, reduceCtorEq, forall_const, false_or, or_false, true_or, or_true, ne_eq, not_true_eq_false, not_false_eq_true, implies_true, false_implies, Nat.reduceAdd, Nat.reduceSub, Nat.reduceMul, Nat.reduceEqDiff, Nat.reduceLT, Nat.reduceLeDiff, Int.reduceAdd, Int.reduceSub, Int.reduceMul, Int.reduceNeg, Int.reduceToNat, Int.reduceLE, Int.reduceLT, Int.reduceEq, Int.reduceNe, and_self]
       (repeat' first | with_reducible apply And.intro | with_reducible intro _)
       all_goals first
         | omega
         | (refine R _ (fun z2 e8 hI => ?_)
            simp only [C_X10_thrown, e8, pvRt2, pvTh2, pvE_aload_n1, pvLA_s, pvLd, pvE_aload_n0, pvE_iload, pvLI_s, pvE_iconst, pvE_iadd, pvE_iaload, pvAI, pvSh_0, pvSh_39, pvSh_58, pvSh_59, pvE_invokestatic (h0 := eL_172), pvC1_s, pvC2_s, pvAf_v, pvAf_x, pvPop, pvCs, pvCat, pvPush, aL_law_172, pvE_istore, pvS1, List.length_cons, List.length_nil, pvClr_i, pvClr_r, pvClr_l, pvClr_d, pvClr_f, pvClr_n, pvE_aload_n2, pvE_invokevirtual, aL_law_175, aL_law_150, pvE_icmp_eq, pvE_ireturn, pvE_goto, bL_law_659, uL_law_659, bL_law_692, uL_law_692, bL_law_2760, uL_law_2760, pvMk_t, pvMk_f, pvMk_n, pvRecv_r, pvUp_nl, pvUp_same, pvUp_ap, pvSt_ap, pvX_c, pvX_ms, pvX_mn, pvE_nil, pvEn_i, pvEn_r, pvEn_l, pvEn_0, pvEn_s, pvRt, pvRv, pvTh, pvKc, pvGo, pvTgt, Int.toNat_natCast, false_and, and_false, true_and, and_true, if_true, if_false, reduceIte, reduceCtorEq, forall_const, false_or, or_false, true_or, or_true, ne_eq, not_true_eq_false, not_false_eq_true, implies_true, false_implies, Nat.reduceAdd, Nat.reduceSub, Nat.reduceMul, Nat.reduceEqDiff, Nat.reduceLT, Nat.reduceLeDiff, Int.reduceAdd, Int.reduceSub, Int.reduceMul, Int.reduceNeg, Int.reduceToNat, Int.reduceLE, Int.reduceLT, Int.reduceEq, Int.reduceNe, and_self]
            (repeat' first | with_reducible apply And.intro | with_reducible intro _)
            all_goals first
              | omega
              | contradiction
              | (exact nx _ _ (by omega) hI)
              | (exact ef)
              | (rename k = 0 => k0; have eb1 := eb k0; exact eb1.2.1)
              | (rename k = 0 => k0; have eb1 := eb k0; exact eb1.2.2)
              | (rename k = 0 => k0; have eb1 := eb k0; rw [eb1.1]; first | exact eb1.2.1 | exact eb1.2.2)
              | (rename ¬ k ≠ 0 => k0; have eb1 := eb (by omega); first | exact eb1.2.1 | exact eb1.2.2 | (rw [eb1.1]; first | exact eb1.2.1 | exact eb1.2.2) | (rw [eb1]; split <;> omega))
              | (exfalso; have eb1 := eb (by omega); simp only [eb1] at *; simp_all)
              | (exfalso; have eb1 := (eb (by omega)).1; simp only [eb1] at *; simp_all)))
set_option maxRecDepth 100000 in
set_option maxHeartbeats 4000000 in
theorem lw_7 {sc : Nat × (Nat → Int)} {Gm : Nat} {Q : pvO → pvM → Prop} {SW : Nat → pvL → pvM → Nat → Prop} (hc : pvCl2 sc Gm fL aL_law kL eL (some .boolean) bL_law uL_law Q SW) {z : pvM} {i : Int} {g : Nat} (h : lwI z) (hi : 0 ≤ i ∧ i + 5 ≤ sc.1 ∧ (sc.1 : Int) ≤ 2147483647) (hg : g + 2 ≤ Gm)
    (nx : ∀ (z' : pvM) (g' : Nat), g' ≤ g + 1 → lwI z' → SW 2760 (lwL i) z' g') : SW 695 (lwL i) z g := by
  refine hc 20 _ _ _ _ fun _ _ => ?_
  clear hc
  simp only [pvSt2]
  simp only [pvE_aload_n1, pvLA_s, pvLd, pvE_aload_n0, pvE_iload, pvLI_s, pvE_iconst, pvE_iadd, pvE_iaload, pvAI, pvSh_0, pvSh_39, pvSh_58, pvSh_59, pvE_invokestatic (h0 := eL_176), pvC1_s, pvC2_s, pvAf_v, pvAf_x, pvPop, pvCs, pvCat, pvPush, aL_law_176, pvE_istore, pvS1, List.length_cons, List.length_nil, pvClr_i, pvClr_r, pvClr_l, pvClr_d, pvClr_f, pvClr_n, pvE_aload_n2, pvE_invokevirtual, aL_law_178, aL_law_150, pvE_icmp_eq, pvE_ireturn, pvE_goto, bL_law_695, uL_law_695, bL_law_728, uL_law_728, bL_law_2760, uL_law_2760, pvMk_t, pvMk_f, pvMk_n, pvRecv_r, pvUp_nl, pvUp_same, pvUp_ap, pvSt_ap, pvX_c, pvX_ms, pvX_mn, pvE_nil, pvEn_i, pvEn_r, pvEn_l, pvEn_0, pvEn_s, pvRt, pvRv, pvTh, pvKc, pvGo, pvTgt, Int.toNat_natCast, false_and, and_false, true_and, and_true, if_true, if_false, reduceIte, reduceCtorEq, forall_const, false_or, or_false, true_or, or_true, ne_eq, not_true_eq_false, not_false_eq_true, implies_true, false_implies, Nat.reduceAdd, Nat.reduceSub, Nat.reduceMul, Nat.reduceEqDiff, Nat.reduceLT, Nat.reduceLeDiff, Int.reduceAdd, Int.reduceSub, Int.reduceMul, Int.reduceNeg, Int.reduceToNat, Int.reduceLE, Int.reduceLT, Int.reduceEq, Int.reduceNe, and_self]
  (repeat' first | with_reducible apply And.intro | with_reducible intro _)
  all_goals first
    | omega
    | (refine lc_clearAutomaton h (fun k z1 R => ?_)
       simp only [pvE_aload_n1, pvLA_s, pvLd, pvE_aload_n0, pvE_iload, pvLI_s, pvE_iconst, pvE_iadd, pvE_iaload, pvAI, pvSh_0, pvSh_39, pvSh_58, pvSh_59, pvE_invokestatic (h0 := eL_176), pvC1_s, pvC2_s, pvAf_v, pvAf_x, pvPop, pvCs, pvCat, pvPush, aL_law_176, pvE_istore, pvS1, List.length_cons, List.length_nil, pvClr_i, pvClr_r, pvClr_l, pvClr_d, pvClr_f, pvClr_n, pvE_aload_n2, pvE_invokevirtual, aL_law_178, aL_law_150, pvE_icmp_eq, pvE_ireturn, pvE_goto, bL_law_695, uL_law_695, bL_law_728, uL_law_728, bL_law_2760, uL_law_2760, pvMk_t, pvMk_f, pvMk_n, pvRecv_r, pvUp_nl, pvUp_same, pvUp_ap, pvSt_ap, pvX_c, pvX_ms, pvX_mn, pvE_nil, pvEn_i, pvEn_r, pvEn_l, pvEn_0, pvEn_s, pvRt, pvRv, pvTh, pvKc, pvGo, pvTgt, Int.toNat_natCast, false_and, and_false, true_and, and_true, if_true, if_false, reduceIte, reduceCtorEq, forall_const, false_or, or_false, true_or, or_true, ne_eq, not_true_eq_false, not_false_eq_true, implies_true, false_implies, Nat.reduceAdd, Nat.reduceSub, Nat.reduceMul, Nat.reduceEqDiff, Nat.reduceLT, Nat.reduceLeDiff, Int.reduceAdd, Int.reduceSub, Int.reduceMul, Int.reduceNeg, Int.reduceToNat, Int.reduceLE, Int.reduceLT, Int.reduceEq, Int.reduceNe, and_self]
       (repeat' first | with_reducible apply And.intro | with_reducible intro _)
       all_goals first
         | omega
         | (refine R _ (fun z2 e8 hI => ?_)
            simp only [C_X10_thrown, e8, pvRt2, pvTh2, pvE_aload_n1, pvLA_s, pvLd, pvE_aload_n0, pvE_iload, pvLI_s, pvE_iconst, pvE_iadd, pvE_iaload, pvAI, pvSh_0, pvSh_39, pvSh_58, pvSh_59, pvE_invokestatic (h0 := eL_176), pvC1_s, pvC2_s, pvAf_v, pvAf_x, pvPop, pvCs, pvCat, pvPush, aL_law_176, pvE_istore, pvS1, List.length_cons, List.length_nil, pvClr_i, pvClr_r, pvClr_l, pvClr_d, pvClr_f, pvClr_n, pvE_aload_n2, pvE_invokevirtual, aL_law_178, aL_law_150, pvE_icmp_eq, pvE_ireturn, pvE_goto, bL_law_695, uL_law_695, bL_law_728, uL_law_728, bL_law_2760, uL_law_2760, pvMk_t, pvMk_f, pvMk_n, pvRecv_r, pvUp_nl, pvUp_same, pvUp_ap, pvSt_ap, pvX_c, pvX_ms, pvX_mn, pvE_nil, pvEn_i, pvEn_r, pvEn_l, pvEn_0, pvEn_s, pvRt, pvRv, pvTh, pvKc, pvGo, pvTgt, Int.toNat_natCast, false_and, and_false, true_and, and_true, if_true, if_false, reduceIte, reduceCtorEq, forall_const, false_or, or_false, true_or, or_true, ne_eq, not_true_eq_false, not_false_eq_true, implies_true, false_implies, Nat.reduceAdd, Nat.reduceSub, Nat.reduceMul, Nat.reduceEqDiff, Nat.reduceLT, Nat.reduceLeDiff, Int.reduceAdd, Int.reduceSub, Int.reduceMul, Int.reduceNeg, Int.reduceToNat, Int.reduceLE, Int.reduceLT, Int.reduceEq, Int.reduceNe, and_self]
            (repeat' first | with_reducible apply And.intro | with_reducible intro _)
            all_goals first
              | omega
              | contradiction
              | (exact nx _ _ (by omega) hI)
              | (exact ef)
              | (rename k = 0 => k0; have eb1 := eb k0; exact eb1.2.1)
              | (rename k = 0 => k0; have eb1 := eb k0; exact eb1.2.2)
              | (rename k = 0 => k0; have eb1 := eb k0; rw [eb1.1]; first | exact eb1.2.1 | exact eb1.2.2)
              | (rename ¬ k ≠ 0 => k0; have eb1 := eb (by omega); first | exact eb1.2.1 | exact eb1.2.2 | (rw [eb1.1]; first | exact eb1.2.1 | exact eb1.2.2) | (rw [eb1]; split <;> omega))
              | (exfalso; have eb1 := eb (by omega); simp only [eb1] at *; simp_all)
              | (exfalso; have eb1 := (eb (by omega)).1; simp only [eb1] at *; simp_all)))
set_option maxRecDepth 100000 in
set_option maxHeartbeats 4000000 in
theorem lw_8 {sc : Nat × (Nat → Int)} {Gm : Nat} {Q : pvO → pvM → Prop} {SW : Nat → pvL → pvM → Nat → Prop} (hc : pvCl2 sc Gm fL aL_law kL eL (some .boolean) bL_law uL_law Q SW) {z : pvM} {i : Int} {g : Nat} (h : lwI z) (hi : 0 ≤ i ∧ i + 5 ≤ sc.1 ∧ (sc.1 : Int) ≤ 2147483647) (hg : g + 2 ≤ Gm)
    (nx : ∀ (z' : pvM) (g' : Nat), g' ≤ g + 1 → lwI z' → SW 2760 (lwL i) z' g') : SW 731 (lwL i) z g := by
  refine hc 20 _ _ _ _ fun _ _ => ?_
  clear hc
  simp only [pvSt2]
  simp only [pvE_aload_n1, pvLA_s, pvLd, pvE_aload_n0, pvE_iload, pvLI_s, pvE_iconst, pvE_iadd, pvE_iaload, pvAI, pvSh_0, pvSh_39, pvSh_58, pvSh_59, pvE_aload_n3, pvE_invokestatic (h0 := eL_179), pvC1_s, pvC2_s, pvAf_v, pvAf_x, pvPop, pvCs, pvCat, pvPush, aL_law_179, pvE_istore, pvS1, List.length_cons, List.length_nil, pvClr_i, pvClr_r, pvClr_l, pvClr_d, pvClr_f, pvClr_n, pvE_aload_n2, pvE_invokevirtual, aL_law_181, aL_law_150, pvE_icmp_eq, pvE_ireturn, pvE_if_ne, pvE_laload, pvAL, pvE_i2l, pvE_lcmp, pvE_if_eq, pvE_goto, bL_law_731, uL_law_731, bL_law_767, uL_law_767, bL_law_784, uL_law_784, bL_law_2760, uL_law_2760, pvMk_t, pvMk_f, pvMk_n, pvRecv_r, pvUp_nl, pvUp_same, pvUp_ap, pvSt_ap, pvX_c, pvX_ms, pvX_mn, pvE_nil, pvEn_i, pvEn_r, pvEn_l, pvEn_0, pvEn_s, pvRt, pvRv, pvTh, pvKc, pvGo, pvTgt, Int.toNat_natCast, false_and, and_false, true_and, and_true, if_true, if_false, reduceIte, reduceCtorEq, forall_const, false_or, or_false, true_or, or_true, ne_eq, not_true_eq_false, not_false_eq_true, implies_true, false_implies, Nat.reduceAdd, Nat.reduceSub, Nat.reduceMul, Nat.reduceEqDiff, Nat.reduceLT, Nat.reduceLeDiff, Int.reduceAdd, Int.reduceSub, Int.reduceMul, Int.reduceNeg, Int.reduceToNat, Int.reduceLE, Int.reduceLT, Int.reduceEq, Int.reduceNe, and_self]
  (repeat' first | with_reducible apply And.intro | with_reducible intro _)
  all_goals first
    | omega
    | (refine lc_transitionCount h (fun k z1 R => ?_)
       simp only [pvE_aload_n1, pvLA_s, pvLd, pvE_aload_n0, pvE_iload, pvLI_s, pvE_iconst, pvE_iadd, pvE_iaload, pvAI, pvSh_0, pvSh_39, pvSh_58, pvSh_59, pvE_aload_n3, pvE_invokestatic (h0 := eL_179), pvC1_s, pvC2_s, pvAf_v, pvAf_x, pvPop, pvCs, pvCat, pvPush, aL_law_179, pvE_istore, pvS1, List.length_cons, List.length_nil, pvClr_i, pvClr_r, pvClr_l, pvClr_d, pvClr_f, pvClr_n, pvE_aload_n2, pvE_invokevirtual, aL_law_181, aL_law_150, pvE_icmp_eq, pvE_ireturn, pvE_if_ne, pvE_laload, pvAL, pvE_i2l, pvE_lcmp, pvE_if_eq, pvE_goto, bL_law_731, uL_law_731, bL_law_767, uL_law_767, bL_law_784, uL_law_784, bL_law_2760, uL_law_2760, pvMk_t, pvMk_f, pvMk_n, pvRecv_r, pvUp_nl, pvUp_same, pvUp_ap, pvSt_ap, pvX_c, pvX_ms, pvX_mn, pvE_nil, pvEn_i, pvEn_r, pvEn_l, pvEn_0, pvEn_s, pvRt, pvRv, pvTh, pvKc, pvGo, pvTgt, Int.toNat_natCast, false_and, and_false, true_and, and_true, if_true, if_false, reduceIte, reduceCtorEq, forall_const, false_or, or_false, true_or, or_true, ne_eq, not_true_eq_false, not_false_eq_true, implies_true, false_implies, Nat.reduceAdd, Nat.reduceSub, Nat.reduceMul, Nat.reduceEqDiff, Nat.reduceLT, Nat.reduceLeDiff, Int.reduceAdd, Int.reduceSub, Int.reduceMul, Int.reduceNeg, Int.reduceToNat, Int.reduceLE, Int.reduceLT, Int.reduceEq, Int.reduceNe, and_self]
       (repeat' first | with_reducible apply And.intro | with_reducible intro _)
       all_goals first
         | omega
         | (refine R _ (fun b z2 e8 eb hI => ?_)
            simp only [C_X10_thrown, e8, pvRt2, pvTh2, pvE_aload_n1, pvLA_s, pvLd, pvE_aload_n0, pvE_iload, pvLI_s, pvE_iconst, pvE_iadd, pvE_iaload, pvAI, pvSh_0, pvSh_39, pvSh_58, pvSh_59, pvE_aload_n3, pvE_invokestatic (h0 := eL_179), pvC1_s, pvC2_s, pvAf_v, pvAf_x, pvPop, pvCs, pvCat, pvPush, aL_law_179, pvE_istore, pvS1, List.length_cons, List.length_nil, pvClr_i, pvClr_r, pvClr_l, pvClr_d, pvClr_f, pvClr_n, pvE_aload_n2, pvE_invokevirtual, aL_law_181, aL_law_150, pvE_icmp_eq, pvE_ireturn, pvE_if_ne, pvE_laload, pvAL, pvE_i2l, pvE_lcmp, pvE_if_eq, pvE_goto, bL_law_731, uL_law_731, bL_law_767, uL_law_767, bL_law_784, uL_law_784, bL_law_2760, uL_law_2760, pvMk_t, pvMk_f, pvMk_n, pvRecv_r, pvUp_nl, pvUp_same, pvUp_ap, pvSt_ap, pvX_c, pvX_ms, pvX_mn, pvE_nil, pvEn_i, pvEn_r, pvEn_l, pvEn_0, pvEn_s, pvRt, pvRv, pvTh, pvKc, pvGo, pvTgt, Int.toNat_natCast, false_and, and_false, true_and, and_true, if_true, if_false, reduceIte, reduceCtorEq, forall_const, false_or, or_false, true_or, or_true, ne_eq, not_true_eq_false, not_false_eq_true, implies_true, false_implies, Nat.reduceAdd, Nat.reduceSub, Nat.reduceMul, Nat.reduceEqDiff, Nat.reduceLT, Nat.reduceLeDiff, Int.reduceAdd, Int.reduceSub, Int.reduceMul, Int.reduceNeg, Int.reduceToNat, Int.reduceLE, Int.reduceLT, Int.reduceEq, Int.reduceNe, and_self]
            (repeat' first | with_reducible apply And.intro | with_reducible intro _)
            all_goals first
              | omega
              | contradiction
              | (exact nx _ _ (by omega) hI)
              | (exact ef)
              | (rename k = 0 => k0; have eb1 := eb k0; exact eb1.2.1)
              | (rename k = 0 => k0; have eb1 := eb k0; exact eb1.2.2)
              | (rename k = 0 => k0; have eb1 := eb k0; rw [eb1.1]; first | exact eb1.2.1 | exact eb1.2.2)
              | (rename ¬ k ≠ 0 => k0; have eb1 := eb (by omega); first | exact eb1.2.1 | exact eb1.2.2 | (rw [eb1.1]; first | exact eb1.2.1 | exact eb1.2.2) | (rw [eb1]; split <;> omega))
              | (exfalso; have eb1 := eb (by omega); simp only [eb1] at *; simp_all)
              | (exfalso; have eb1 := (eb (by omega)).1; simp only [eb1] at *; simp_all)))
set_option maxRecDepth 100000 in
set_option maxHeartbeats 4000000 in
theorem lw_9 {sc : Nat × (Nat → Int)} {Gm : Nat} {Q : pvO → pvM → Prop} {SW : Nat → pvL → pvM → Nat → Prop} (hc : pvCl2 sc Gm fL aL_law kL eL (some .boolean) bL_law uL_law Q SW) {z : pvM} {i : Int} {g : Nat} (h : lwI z) (hi : 0 ≤ i ∧ i + 5 ≤ sc.1 ∧ (sc.1 : Int) ≤ 2147483647) (hg : g + 2 ≤ Gm)
    (nx : ∀ (z' : pvM) (g' : Nat), g' ≤ g + 1 → lwI z' → SW 2760 (lwL i) z' g') : SW 787 (lwL i) z g := by
  refine hc 20 _ _ _ _ fun _ _ => ?_
  clear hc
  simp only [pvSt2]
  simp only [pvE_aload_n1, pvLA_s, pvLd, pvE_aload_n0, pvE_iload, pvLI_s, pvE_iconst, pvE_iadd, pvE_iaload, pvAI, pvSh_0, pvSh_39, pvSh_58, pvSh_59, pvE_aload_n3, pvE_invokestatic (h0 := eL_182), pvC1_s, pvC2_s, pvAf_v, pvAf_x, pvPop, pvCs, pvCat, pvPush, aL_law_182, pvE_istore, pvS1, List.length_cons, List.length_nil, pvClr_i, pvClr_r, pvClr_l, pvClr_d, pvClr_f, pvClr_n, pvE_aload_n2, pvE_invokevirtual, aL_law_185, aL_law_150, pvE_icmp_eq, pvE_ireturn, pvE_if_ne, pvE_laload, pvAL, pvE_i2l, pvE_lcmp, pvE_if_eq, pvE_goto, bL_law_787, uL_law_787, bL_law_847, uL_law_847, bL_law_864, uL_law_864, bL_law_2760, uL_law_2760, pvMk_t, pvMk_f, pvMk_n, pvRecv_r, pvUp_nl, pvUp_same, pvUp_ap, pvSt_ap, pvX_c, pvX_ms, pvX_mn, pvE_nil, pvEn_i, pvEn_r, pvEn_l, pvEn_0, pvEn_s, pvRt, pvRv, pvTh, pvKc, pvGo, pvTgt, Int.toNat_natCast, false_and, and_false, true_and, and_true, if_true, if_false, reduceIte, reduceCtorEq, forall_const, false_or, or_false, true_or, or_true, ne_eq, not_true_eq_false, not_false_eq_true, implies_true, false_implies, Nat.reduceAdd, Nat.reduceSub, Nat.reduceMul, Nat.reduceEqDiff, Nat.reduceLT, Nat.reduceLeDiff, Int.reduceAdd, Int.reduceSub, Int.reduceMul, Int.reduceNeg, Int.reduceToNat, Int.reduceLE, Int.reduceLT, Int.reduceEq, Int.reduceNe, and_self]
  (repeat' first | with_reducible apply And.intro | with_reducible intro _)
  all_goals first
    | omega
    | (refine lc_transition h (fun k z1 R => ?_)
       simp only [pvE_aload_n1, pvLA_s, pvLd, pvE_aload_n0, pvE_iload, pvLI_s, pvE_iconst, pvE_iadd, pvE_iaload, pvAI, pvSh_0, pvSh_39, pvSh_58, pvSh_59, pvE_aload_n3, pvE_invokestatic (h0 := eL_182), pvC1_s, pvC2_s, pvAf_v, pvAf_x, pvPop, pvCs, pvCat, pvPush, aL_law_182, pvE_istore, pvS1, List.length_cons, List.length_nil, pvClr_i, pvClr_r, pvClr_l, pvClr_d, pvClr_f, pvClr_n, pvE_aload_n2, pvE_invokevirtual, aL_law_185, aL_law_150, pvE_icmp_eq, pvE_ireturn, pvE_if_ne, pvE_laload, pvAL, pvE_i2l, pvE_lcmp, pvE_if_eq, pvE_goto, bL_law_787, uL_law_787, bL_law_847, uL_law_847, bL_law_864, uL_law_864, bL_law_2760, uL_law_2760, pvMk_t, pvMk_f, pvMk_n, pvRecv_r, pvUp_nl, pvUp_same, pvUp_ap, pvSt_ap, pvX_c, pvX_ms, pvX_mn, pvE_nil, pvEn_i, pvEn_r, pvEn_l, pvEn_0, pvEn_s, pvRt, pvRv, pvTh, pvKc, pvGo, pvTgt, Int.toNat_natCast, false_and, and_false, true_and, and_true, if_true, if_false, reduceIte, reduceCtorEq, forall_const, false_or, or_false, true_or, or_true, ne_eq, not_true_eq_false, not_false_eq_true, implies_true, false_implies, Nat.reduceAdd, Nat.reduceSub, Nat.reduceMul, Nat.reduceEqDiff, Nat.reduceLT, Nat.reduceLeDiff, Int.reduceAdd, Int.reduceSub, Int.reduceMul, Int.reduceNeg, Int.reduceToNat, Int.reduceLE, Int.reduceLT, Int.reduceEq, Int.reduceNe, and_self]
       (repeat' first | with_reducible apply And.intro | with_reducible intro _)
       all_goals first
         | omega
         | (refine R _ (fun b z2 e8 eb hI => ?_)
            simp only [C_X10_thrown, e8, pvRt2, pvTh2, pvE_aload_n1, pvLA_s, pvLd, pvE_aload_n0, pvE_iload, pvLI_s, pvE_iconst, pvE_iadd, pvE_iaload, pvAI, pvSh_0, pvSh_39, pvSh_58, pvSh_59, pvE_aload_n3, pvE_invokestatic (h0 := eL_182), pvC1_s, pvC2_s, pvAf_v, pvAf_x, pvPop, pvCs, pvCat, pvPush, aL_law_182, pvE_istore, pvS1, List.length_cons, List.length_nil, pvClr_i, pvClr_r, pvClr_l, pvClr_d, pvClr_f, pvClr_n, pvE_aload_n2, pvE_invokevirtual, aL_law_185, aL_law_150, pvE_icmp_eq, pvE_ireturn, pvE_if_ne, pvE_laload, pvAL, pvE_i2l, pvE_lcmp, pvE_if_eq, pvE_goto, bL_law_787, uL_law_787, bL_law_847, uL_law_847, bL_law_864, uL_law_864, bL_law_2760, uL_law_2760, pvMk_t, pvMk_f, pvMk_n, pvRecv_r, pvUp_nl, pvUp_same, pvUp_ap, pvSt_ap, pvX_c, pvX_ms, pvX_mn, pvE_nil, pvEn_i, pvEn_r, pvEn_l, pvEn_0, pvEn_s, pvRt, pvRv, pvTh, pvKc, pvGo, pvTgt, Int.toNat_natCast, false_and, and_false, true_and, and_true, if_true, if_false, reduceIte, reduceCtorEq, forall_const, false_or, or_false, true_or, or_true, ne_eq, not_true_eq_false, not_false_eq_true, implies_true, false_implies, Nat.reduceAdd, Nat.reduceSub, Nat.reduceMul, Nat.reduceEqDiff, Nat.reduceLT, Nat.reduceLeDiff, Int.reduceAdd, Int.reduceSub, Int.reduceMul, Int.reduceNeg, Int.reduceToNat, Int.reduceLE, Int.reduceLT, Int.reduceEq, Int.reduceNe, and_self]
            (repeat' first | with_reducible apply And.intro | with_reducible intro _)
            all_goals first
              | omega
              | contradiction
              | (exact nx _ _ (by omega) hI)
              | (exact ef)
              | (rename k = 0 => k0; have eb1 := eb k0; exact eb1.2.1)
              | (rename k = 0 => k0; have eb1 := eb k0; exact eb1.2.2)
              | (rename k = 0 => k0; have eb1 := eb k0; rw [eb1.1]; first | exact eb1.2.1 | exact eb1.2.2)
              | (rename ¬ k ≠ 0 => k0; have eb1 := eb (by omega); first | exact eb1.2.1 | exact eb1.2.2 | (rw [eb1.1]; first | exact eb1.2.1 | exact eb1.2.2) | (rw [eb1]; split <;> omega))
              | (exfalso; have eb1 := eb (by omega); simp only [eb1] at *; simp_all)
              | (exfalso; have eb1 := (eb (by omega)).1; simp only [eb1] at *; simp_all)))
set_option maxRecDepth 100000 in
set_option maxHeartbeats 4000000 in
theorem lw_10 {sc : Nat × (Nat → Int)} {Gm : Nat} {Q : pvO → pvM → Prop} {SW : Nat → pvL → pvM → Nat → Prop} (hc : pvCl2 sc Gm fL aL_law kL eL (some .boolean) bL_law uL_law Q SW) {z : pvM} {i : Int} {g : Nat} (h : lwI z) (hi : 0 ≤ i ∧ i + 5 ≤ sc.1 ∧ (sc.1 : Int) ≤ 2147483647) (hg : g + 2 ≤ Gm)
    (nx : ∀ (z' : pvM) (g' : Nat), g' ≤ g + 1 → lwI z' → SW 2760 (lwL i) z' g') : SW 867 (lwL i) z g := by
  refine hc 20 _ _ _ _ fun _ _ => ?_
  clear hc
  simp only [pvSt2]
  simp only [pvE_aload_n1, pvLA_s, pvLd, pvE_aload_n0, pvE_iload, pvLI_s, pvE_iconst, pvE_iadd, pvE_iaload, pvAI, pvSh_0, pvSh_39, pvSh_58, pvSh_59, pvE_aload_n3, pvE_invokestatic (h0 := eL_186), pvC1_s, pvC2_s, pvAf_v, pvAf_x, pvPop, pvCs, pvCat, pvPush, aL_law_186, pvE_istore, pvS1, List.length_cons, List.length_nil, pvClr_i, pvClr_r, pvClr_l, pvClr_d, pvClr_f, pvClr_n, pvE_aload_n2, pvE_invokevirtual, aL_law_188, aL_law_150, pvE_icmp_eq, pvE_ireturn, pvE_if_ne, pvE_laload, pvAL, pvE_i2l, pvE_lcmp, pvE_if_eq, pvE_goto, bL_law_867, uL_law_867, bL_law_939, uL_law_939, bL_law_956, uL_law_956, bL_law_2760, uL_law_2760, pvMk_t, pvMk_f, pvMk_n, pvRecv_r, pvUp_nl, pvUp_same, pvUp_ap, pvSt_ap, pvX_c, pvX_ms, pvX_mn, pvE_nil, pvEn_i, pvEn_r, pvEn_l, pvEn_0, pvEn_s, pvRt, pvRv, pvTh, pvKc, pvGo, pvTgt, Int.toNat_natCast, false_and, and_false, true_and, and_true, if_true, if_false, reduceIte, reduceCtorEq, forall_const, false_or, or_false, true_or, or_true, ne_eq, not_true_eq_false, not_false_eq_true, implies_true, false_implies, Nat.reduceAdd, Nat.reduceSub, Nat.reduceMul, Nat.reduceEqDiff, Nat.reduceLT, Nat.reduceLeDiff, Int.reduceAdd, Int.reduceSub, Int.reduceMul, Int.reduceNeg, Int.reduceToNat, Int.reduceLE, Int.reduceLT, Int.reduceEq, Int.reduceNe, and_self]
  (repeat' first | with_reducible apply And.intro | with_reducible intro _)
  all_goals first
    | omega
    | (refine lc_constraint h (fun k z1 R => ?_)
       simp only [pvE_aload_n1, pvLA_s, pvLd, pvE_aload_n0, pvE_iload, pvLI_s, pvE_iconst, pvE_iadd, pvE_iaload, pvAI, pvSh_0, pvSh_39, pvSh_58, pvSh_59, pvE_aload_n3, pvE_invokestatic (h0 := eL_186), pvC1_s, pvC2_s, pvAf_v, pvAf_x, pvPop, pvCs, pvCat, pvPush, aL_law_186, pvE_istore, pvS1, List.length_cons, List.length_nil, pvClr_i, pvClr_r, pvClr_l, pvClr_d, pvClr_f, pvClr_n, pvE_aload_n2, pvE_invokevirtual, aL_law_188, aL_law_150, pvE_icmp_eq, pvE_ireturn, pvE_if_ne, pvE_laload, pvAL, pvE_i2l, pvE_lcmp, pvE_if_eq, pvE_goto, bL_law_867, uL_law_867, bL_law_939, uL_law_939, bL_law_956, uL_law_956, bL_law_2760, uL_law_2760, pvMk_t, pvMk_f, pvMk_n, pvRecv_r, pvUp_nl, pvUp_same, pvUp_ap, pvSt_ap, pvX_c, pvX_ms, pvX_mn, pvE_nil, pvEn_i, pvEn_r, pvEn_l, pvEn_0, pvEn_s, pvRt, pvRv, pvTh, pvKc, pvGo, pvTgt, Int.toNat_natCast, false_and, and_false, true_and, and_true, if_true, if_false, reduceIte, reduceCtorEq, forall_const, false_or, or_false, true_or, or_true, ne_eq, not_true_eq_false, not_false_eq_true, implies_true, false_implies, Nat.reduceAdd, Nat.reduceSub, Nat.reduceMul, Nat.reduceEqDiff, Nat.reduceLT, Nat.reduceLeDiff, Int.reduceAdd, Int.reduceSub, Int.reduceMul, Int.reduceNeg, Int.reduceToNat, Int.reduceLE, Int.reduceLT, Int.reduceEq, Int.reduceNe, and_self]
       (repeat' first | with_reducible apply And.intro | with_reducible intro _)
       all_goals first
         | omega
         | (refine R _ (fun b z2 e8 eb hI => ?_)
            simp only [C_X10_thrown, e8, pvRt2, pvTh2, pvE_aload_n1, pvLA_s, pvLd, pvE_aload_n0, pvE_iload, pvLI_s, pvE_iconst, pvE_iadd, pvE_iaload, pvAI, pvSh_0, pvSh_39, pvSh_58, pvSh_59, pvE_aload_n3, pvE_invokestatic (h0 := eL_186), pvC1_s, pvC2_s, pvAf_v, pvAf_x, pvPop, pvCs, pvCat, pvPush, aL_law_186, pvE_istore, pvS1, List.length_cons, List.length_nil, pvClr_i, pvClr_r, pvClr_l, pvClr_d, pvClr_f, pvClr_n, pvE_aload_n2, pvE_invokevirtual, aL_law_188, aL_law_150, pvE_icmp_eq, pvE_ireturn, pvE_if_ne, pvE_laload, pvAL, pvE_i2l, pvE_lcmp, pvE_if_eq, pvE_goto, bL_law_867, uL_law_867, bL_law_939, uL_law_939, bL_law_956, uL_law_956, bL_law_2760, uL_law_2760, pvMk_t, pvMk_f, pvMk_n, pvRecv_r, pvUp_nl, pvUp_same, pvUp_ap, pvSt_ap, pvX_c, pvX_ms, pvX_mn, pvE_nil, pvEn_i, pvEn_r, pvEn_l, pvEn_0, pvEn_s, pvRt, pvRv, pvTh, pvKc, pvGo, pvTgt, Int.toNat_natCast, false_and, and_false, true_and, and_true, if_true, if_false, reduceIte, reduceCtorEq, forall_const, false_or, or_false, true_or, or_true, ne_eq, not_true_eq_false, not_false_eq_true, implies_true, false_implies, Nat.reduceAdd, Nat.reduceSub, Nat.reduceMul, Nat.reduceEqDiff, Nat.reduceLT, Nat.reduceLeDiff, Int.reduceAdd, Int.reduceSub, Int.reduceMul, Int.reduceNeg, Int.reduceToNat, Int.reduceLE, Int.reduceLT, Int.reduceEq, Int.reduceNe, and_self]
            (repeat' first | with_reducible apply And.intro | with_reducible intro _)
            all_goals first
              | omega
              | contradiction
              | (exact nx _ _ (by omega) hI)
              | (exact ef)
              | (rename k = 0 => k0; have eb1 := eb k0; exact eb1.2.1)
              | (rename k = 0 => k0; have eb1 := eb k0; exact eb1.2.2)
              | (rename k = 0 => k0; have eb1 := eb k0; rw [eb1.1]; first | exact eb1.2.1 | exact eb1.2.2)
              | (rename ¬ k ≠ 0 => k0; have eb1 := eb (by omega); first | exact eb1.2.1 | exact eb1.2.2 | (rw [eb1.1]; first | exact eb1.2.1 | exact eb1.2.2) | (rw [eb1]; split <;> omega))
              | (exfalso; have eb1 := eb (by omega); simp only [eb1] at *; simp_all)
              | (exfalso; have eb1 := (eb (by omega)).1; simp only [eb1] at *; simp_all)))
set_option maxRecDepth 100000 in
set_option maxHeartbeats 4000000 in
theorem lw_11 {sc : Nat × (Nat → Int)} {Gm : Nat} {Q : pvO → pvM → Prop} {SW : Nat → pvL → pvM → Nat → Prop} (hc : pvCl2 sc Gm fL aL_law kL eL (some .boolean) bL_law uL_law Q SW) {z : pvM} {i : Int} {g : Nat} (h : lwI z) (hi : 0 ≤ i ∧ i + 5 ≤ sc.1 ∧ (sc.1 : Int) ≤ 2147483647) (hg : g + 2 ≤ Gm)
    (nx : ∀ (z' : pvM) (g' : Nat), g' ≤ g + 1 → lwI z' → SW 2760 (lwL i) z' g') : SW 959 (lwL i) z g := by
  refine hc 20 _ _ _ _ fun _ _ => ?_
  clear hc
  simp only [pvSt2]
  simp only [pvE_aload_n1, pvLA_s, pvLd, pvE_aload_n0, pvE_iload, pvLI_s, pvE_iconst, pvE_iadd, pvE_iaload, pvAI, pvSh_0, pvSh_39, pvSh_58, pvSh_59, pvE_aload_n3, pvE_invokestatic (h0 := eL_189), pvC1_s, pvC2_s, pvAf_v, pvAf_x, pvPop, pvCs, pvCat, pvPush, aL_law_189, pvE_istore, pvS1, List.length_cons, List.length_nil, pvClr_i, pvClr_r, pvClr_l, pvClr_d, pvClr_f, pvClr_n, pvE_aload_n2, pvE_invokevirtual, aL_law_191, aL_law_150, pvE_icmp_eq, pvE_ireturn, pvE_if_ne, pvE_laload, pvAL, pvE_i2l, pvE_lcmp, pvE_if_eq, pvE_goto, bL_law_959, uL_law_959, bL_law_1007, uL_law_1007, bL_law_1024, uL_law_1024, bL_law_2760, uL_law_2760, pvMk_t, pvMk_f, pvMk_n, pvRecv_r, pvUp_nl, pvUp_same, pvUp_ap, pvSt_ap, pvX_c, pvX_ms, pvX_mn, pvE_nil, pvEn_i, pvEn_r, pvEn_l, pvEn_0, pvEn_s, pvRt, pvRv, pvTh, pvKc, pvGo, pvTgt, Int.toNat_natCast, false_and, and_false, true_and, and_true, if_true, if_false, reduceIte, reduceCtorEq, forall_const, false_or, or_false, true_or, or_true, ne_eq, not_true_eq_false, not_false_eq_true, implies_true, false_implies, Nat.reduceAdd, Nat.reduceSub, Nat.reduceMul, Nat.reduceEqDiff, Nat.reduceLT, Nat.reduceLeDiff, Int.reduceAdd, Int.reduceSub, Int.reduceMul, Int.reduceNeg, Int.reduceToNat, Int.reduceLE, Int.reduceLT, Int.reduceEq, Int.reduceNe, and_self]
  (repeat' first | with_reducible apply And.intro | with_reducible intro _)
  all_goals first
    | omega
    | (refine lc_satisfyingValuations h (fun k z1 R => ?_)
       simp only [pvE_aload_n1, pvLA_s, pvLd, pvE_aload_n0, pvE_iload, pvLI_s, pvE_iconst, pvE_iadd, pvE_iaload, pvAI, pvSh_0, pvSh_39, pvSh_58, pvSh_59, pvE_aload_n3, pvE_invokestatic (h0 := eL_189), pvC1_s, pvC2_s, pvAf_v, pvAf_x, pvPop, pvCs, pvCat, pvPush, aL_law_189, pvE_istore, pvS1, List.length_cons, List.length_nil, pvClr_i, pvClr_r, pvClr_l, pvClr_d, pvClr_f, pvClr_n, pvE_aload_n2, pvE_invokevirtual, aL_law_191, aL_law_150, pvE_icmp_eq, pvE_ireturn, pvE_if_ne, pvE_laload, pvAL, pvE_i2l, pvE_lcmp, pvE_if_eq, pvE_goto, bL_law_959, uL_law_959, bL_law_1007, uL_law_1007, bL_law_1024, uL_law_1024, bL_law_2760, uL_law_2760, pvMk_t, pvMk_f, pvMk_n, pvRecv_r, pvUp_nl, pvUp_same, pvUp_ap, pvSt_ap, pvX_c, pvX_ms, pvX_mn, pvE_nil, pvEn_i, pvEn_r, pvEn_l, pvEn_0, pvEn_s, pvRt, pvRv, pvTh, pvKc, pvGo, pvTgt, Int.toNat_natCast, false_and, and_false, true_and, and_true, if_true, if_false, reduceIte, reduceCtorEq, forall_const, false_or, or_false, true_or, or_true, ne_eq, not_true_eq_false, not_false_eq_true, implies_true, false_implies, Nat.reduceAdd, Nat.reduceSub, Nat.reduceMul, Nat.reduceEqDiff, Nat.reduceLT, Nat.reduceLeDiff, Int.reduceAdd, Int.reduceSub, Int.reduceMul, Int.reduceNeg, Int.reduceToNat, Int.reduceLE, Int.reduceLT, Int.reduceEq, Int.reduceNe, and_self]
       (repeat' first | with_reducible apply And.intro | with_reducible intro _)
       all_goals first
         | omega
         | (refine R _ (fun b z2 e8 eb hI => ?_)
            simp only [C_X10_thrown, e8, pvRt2, pvTh2, pvE_aload_n1, pvLA_s, pvLd, pvE_aload_n0, pvE_iload, pvLI_s, pvE_iconst, pvE_iadd, pvE_iaload, pvAI, pvSh_0, pvSh_39, pvSh_58, pvSh_59, pvE_aload_n3, pvE_invokestatic (h0 := eL_189), pvC1_s, pvC2_s, pvAf_v, pvAf_x, pvPop, pvCs, pvCat, pvPush, aL_law_189, pvE_istore, pvS1, List.length_cons, List.length_nil, pvClr_i, pvClr_r, pvClr_l, pvClr_d, pvClr_f, pvClr_n, pvE_aload_n2, pvE_invokevirtual, aL_law_191, aL_law_150, pvE_icmp_eq, pvE_ireturn, pvE_if_ne, pvE_laload, pvAL, pvE_i2l, pvE_lcmp, pvE_if_eq, pvE_goto, bL_law_959, uL_law_959, bL_law_1007, uL_law_1007, bL_law_1024, uL_law_1024, bL_law_2760, uL_law_2760, pvMk_t, pvMk_f, pvMk_n, pvRecv_r, pvUp_nl, pvUp_same, pvUp_ap, pvSt_ap, pvX_c, pvX_ms, pvX_mn, pvE_nil, pvEn_i, pvEn_r, pvEn_l, pvEn_0, pvEn_s, pvRt, pvRv, pvTh, pvKc, pvGo, pvTgt, Int.toNat_natCast, false_and, and_false, true_and, and_true, if_true, if_false, reduceIte, reduceCtorEq, forall_const, false_or, or_false, true_or, or_true, ne_eq, not_true_eq_false, not_false_eq_true, implies_true, false_implies, Nat.reduceAdd, Nat.reduceSub, Nat.reduceMul, Nat.reduceEqDiff, Nat.reduceLT, Nat.reduceLeDiff, Int.reduceAdd, Int.reduceSub, Int.reduceMul, Int.reduceNeg, Int.reduceToNat, Int.reduceLE, Int.reduceLT, Int.reduceEq, Int.reduceNe, and_self]
            (repeat' first | with_reducible apply And.intro | with_reducible intro _)
            all_goals first
              | omega
              | contradiction
              | (exact nx _ _ (by omega) hI)
              | (exact ef)
              | (rename k = 0 => k0; have eb1 := eb k0; exact eb1.2.1)
              | (rename k = 0 => k0; have eb1 := eb k0; exact eb1.2.2)
              | (rename k = 0 => k0; have eb1 := eb k0; rw [eb1.1]; first | exact eb1.2.1 | exact eb1.2.2)
              | (rename ¬ k ≠ 0 => k0; have eb1 := eb (by omega); first | exact eb1.2.1 | exact eb1.2.2 | (rw [eb1.1]; first | exact eb1.2.1 | exact eb1.2.2) | (rw [eb1]; split <;> omega))
              | (exfalso; have eb1 := eb (by omega); simp only [eb1] at *; simp_all)
              | (exfalso; have eb1 := (eb (by omega)).1; simp only [eb1] at *; simp_all)))
set_option maxRecDepth 100000 in
set_option maxHeartbeats 4000000 in
theorem lw_12 {sc : Nat × (Nat → Int)} {Gm : Nat} {Q : pvO → pvM → Prop} {SW : Nat → pvL → pvM → Nat → Prop} (hc : pvCl2 sc Gm fL aL_law kL eL (some .boolean) bL_law uL_law Q SW) {z : pvM} {i : Int} {g : Nat} (h : lwI z) (hi : 0 ≤ i ∧ i + 5 ≤ sc.1 ∧ (sc.1 : Int) ≤ 2147483647) (hg : g + 2 ≤ Gm)
    (nx : ∀ (z' : pvM) (g' : Nat), g' ≤ g + 1 → lwI z' → SW 2760 (lwL i) z' g') : SW 1027 (lwL i) z g := by
  refine hc 20 _ _ _ _ fun _ _ => ?_
  clear hc
  simp only [pvSt2]
  simp only [pvE_aload_n1, pvLA_s, pvLd, pvE_aload_n0, pvE_iload, pvLI_s, pvE_iconst, pvE_iadd, pvE_iaload, pvAI, pvSh_0, pvSh_39, pvSh_58, pvSh_59, pvE_aload_n3, pvE_invokestatic (h0 := eL_192), pvC1_s, pvC2_s, pvAf_v, pvAf_x, pvPop, pvCs, pvCat, pvPush, aL_law_192, pvE_istore, pvS1, List.length_cons, List.length_nil, pvClr_i, pvClr_r, pvClr_l, pvClr_d, pvClr_f, pvClr_n, pvE_aload_n2, pvE_invokevirtual, aL_law_194, aL_law_150, pvE_icmp_eq, pvE_ireturn, pvE_if_ne, pvE_laload, pvAL, pvE_i2l, pvE_lcmp, pvE_if_eq, pvE_goto, bL_law_1027, uL_law_1027, bL_law_1075, uL_law_1075, bL_law_1092, uL_law_1092, bL_law_2760, uL_law_2760, pvMk_t, pvMk_f, pvMk_n, pvRecv_r, pvUp_nl, pvUp_same, pvUp_ap, pvSt_ap, pvX_c, pvX_ms, pvX_mn, pvE_nil, pvEn_i, pvEn_r, pvEn_l, pvEn_0, pvEn_s, pvRt, pvRv, pvTh, pvKc, pvGo, pvTgt, Int.toNat_natCast, false_and, and_false, true_and, and_true, if_true, if_false, reduceIte, reduceCtorEq, forall_const, false_or, or_false, true_or, or_true, ne_eq, not_true_eq_false, not_false_eq_true, implies_true, false_implies, Nat.reduceAdd, Nat.reduceSub, Nat.reduceMul, Nat.reduceEqDiff, Nat.reduceLT, Nat.reduceLeDiff, Int.reduceAdd, Int.reduceSub, Int.reduceMul, Int.reduceNeg, Int.reduceToNat, Int.reduceLE, Int.reduceLT, Int.reduceEq, Int.reduceNe, and_self]
  (repeat' first | with_reducible apply And.intro | with_reducible intro _)
  all_goals first
    | omega
    | (refine lc_appendEvent h (fun k z1 R => ?_)
       simp only [pvE_aload_n1, pvLA_s, pvLd, pvE_aload_n0, pvE_iload, pvLI_s, pvE_iconst, pvE_iadd, pvE_iaload, pvAI, pvSh_0, pvSh_39, pvSh_58, pvSh_59, pvE_aload_n3, pvE_invokestatic (h0 := eL_192), pvC1_s, pvC2_s, pvAf_v, pvAf_x, pvPop, pvCs, pvCat, pvPush, aL_law_192, pvE_istore, pvS1, List.length_cons, List.length_nil, pvClr_i, pvClr_r, pvClr_l, pvClr_d, pvClr_f, pvClr_n, pvE_aload_n2, pvE_invokevirtual, aL_law_194, aL_law_150, pvE_icmp_eq, pvE_ireturn, pvE_if_ne, pvE_laload, pvAL, pvE_i2l, pvE_lcmp, pvE_if_eq, pvE_goto, bL_law_1027, uL_law_1027, bL_law_1075, uL_law_1075, bL_law_1092, uL_law_1092, bL_law_2760, uL_law_2760, pvMk_t, pvMk_f, pvMk_n, pvRecv_r, pvUp_nl, pvUp_same, pvUp_ap, pvSt_ap, pvX_c, pvX_ms, pvX_mn, pvE_nil, pvEn_i, pvEn_r, pvEn_l, pvEn_0, pvEn_s, pvRt, pvRv, pvTh, pvKc, pvGo, pvTgt, Int.toNat_natCast, false_and, and_false, true_and, and_true, if_true, if_false, reduceIte, reduceCtorEq, forall_const, false_or, or_false, true_or, or_true, ne_eq, not_true_eq_false, not_false_eq_true, implies_true, false_implies, Nat.reduceAdd, Nat.reduceSub, Nat.reduceMul, Nat.reduceEqDiff, Nat.reduceLT, Nat.reduceLeDiff, Int.reduceAdd, Int.reduceSub, Int.reduceMul, Int.reduceNeg, Int.reduceToNat, Int.reduceLE, Int.reduceLT, Int.reduceEq, Int.reduceNe, and_self]
       (repeat' first | with_reducible apply And.intro | with_reducible intro _)
       all_goals first
         | omega
         | (refine R _ (fun b z2 e8 eb hI => ?_)
            simp only [C_X10_thrown, e8, pvRt2, pvTh2, pvE_aload_n1, pvLA_s, pvLd, pvE_aload_n0, pvE_iload, pvLI_s, pvE_iconst, pvE_iadd, pvE_iaload, pvAI, pvSh_0, pvSh_39, pvSh_58, pvSh_59, pvE_aload_n3, pvE_invokestatic (h0 := eL_192), pvC1_s, pvC2_s, pvAf_v, pvAf_x, pvPop, pvCs, pvCat, pvPush, aL_law_192, pvE_istore, pvS1, List.length_cons, List.length_nil, pvClr_i, pvClr_r, pvClr_l, pvClr_d, pvClr_f, pvClr_n, pvE_aload_n2, pvE_invokevirtual, aL_law_194, aL_law_150, pvE_icmp_eq, pvE_ireturn, pvE_if_ne, pvE_laload, pvAL, pvE_i2l, pvE_lcmp, pvE_if_eq, pvE_goto, bL_law_1027, uL_law_1027, bL_law_1075, uL_law_1075, bL_law_1092, uL_law_1092, bL_law_2760, uL_law_2760, pvMk_t, pvMk_f, pvMk_n, pvRecv_r, pvUp_nl, pvUp_same, pvUp_ap, pvSt_ap, pvX_c, pvX_ms, pvX_mn, pvE_nil, pvEn_i, pvEn_r, pvEn_l, pvEn_0, pvEn_s, pvRt, pvRv, pvTh, pvKc, pvGo, pvTgt, Int.toNat_natCast, false_and, and_false, true_and, and_true, if_true, if_false, reduceIte, reduceCtorEq, forall_const, false_or, or_false, true_or, or_true, ne_eq, not_true_eq_false, not_false_eq_true, implies_true, false_implies, Nat.reduceAdd, Nat.reduceSub, Nat.reduceMul, Nat.reduceEqDiff, Nat.reduceLT, Nat.reduceLeDiff, Int.reduceAdd, Int.reduceSub, Int.reduceMul, Int.reduceNeg, Int.reduceToNat, Int.reduceLE, Int.reduceLT, Int.reduceEq, Int.reduceNe, and_self]
            (repeat' first | with_reducible apply And.intro | with_reducible intro _)
            all_goals first
              | omega
              | contradiction
              | (exact nx _ _ (by omega) hI)
              | (exact ef)
              | (rename k = 0 => k0; have eb1 := eb k0; exact eb1.2.1)
              | (rename k = 0 => k0; have eb1 := eb k0; exact eb1.2.2)
              | (rename k = 0 => k0; have eb1 := eb k0; rw [eb1.1]; first | exact eb1.2.1 | exact eb1.2.2)
              | (rename ¬ k ≠ 0 => k0; have eb1 := eb (by omega); first | exact eb1.2.1 | exact eb1.2.2 | (rw [eb1.1]; first | exact eb1.2.1 | exact eb1.2.2) | (rw [eb1]; split <;> omega))
              | (exfalso; have eb1 := eb (by omega); simp only [eb1] at *; simp_all)
              | (exfalso; have eb1 := (eb (by omega)).1; simp only [eb1] at *; simp_all)))
set_option maxRecDepth 100000 in
set_option maxHeartbeats 4000000 in
theorem lw_13 {sc : Nat × (Nat → Int)} {Gm : Nat} {Q : pvO → pvM → Prop} {SW : Nat → pvL → pvM → Nat → Prop} (hc : pvCl2 sc Gm fL aL_law kL eL (some .boolean) bL_law uL_law Q SW) {z : pvM} {i : Int} {g : Nat} (h : lwI z) (hi : 0 ≤ i ∧ i + 5 ≤ sc.1 ∧ (sc.1 : Int) ≤ 2147483647) (hg : g + 2 ≤ Gm)
    (nx : ∀ (z' : pvM) (g' : Nat), g' ≤ g + 1 → lwI z' → SW 2760 (lwL i) z' g') : SW 1095 (lwL i) z g := by
  refine hc 20 _ _ _ _ fun _ _ => ?_
  clear hc
  simp only [pvSt2]
  have t4 : z.1 17 4 = z.1 39 12 := h.2.1.1.2.1
  have t7 : z.1 20 4 = z.1 39 7 := h.2.2.1.2.1
  simp only [C_X9_clearWord, C_X10_clearWord, pvRt2, pvTh2, ne_eq, pvE_aload_n1, pvLA_s, pvLd, pvE_invokevirtual, pvC1_s, pvC2_s, pvAf_v, pvAf_x, pvPop, pvCs, pvCat, pvPush, aL_law_195, pvSh_0, pvSh_39, pvSh_58, pvSh_59, pvE_aload_n2, aL_law_198, pvE_icmp_eq, pvE_iconst, pvE_ireturn, bL_law_1095, uL_law_1095, bL_law_2760, uL_law_2760, pvMk_t, pvMk_f, pvMk_n, pvRecv_r, pvUp_nl, pvUp_same, pvUp_ap, pvSt_ap, pvX_c, pvX_ms, pvX_mn, pvE_nil, pvEn_i, pvEn_r, pvEn_l, pvEn_0, pvEn_s, pvRt, pvRv, pvTh, pvKc, pvGo, pvTgt, Int.toNat_natCast, false_and, and_false, true_and, and_true, if_true, if_false, reduceIte, reduceCtorEq, forall_const, false_or, or_false, true_or, or_true, ne_eq, not_true_eq_false, not_false_eq_true, implies_true, false_implies, Nat.reduceAdd, Nat.reduceSub, Nat.reduceMul, Nat.reduceEqDiff, Nat.reduceLT, Nat.reduceLeDiff, Int.reduceAdd, Int.reduceSub, Int.reduceMul, Int.reduceNeg, Int.reduceToNat, Int.reduceLE, Int.reduceLT, Int.reduceEq, Int.reduceNe, and_self]
  (repeat' first | with_reducible apply And.intro | with_reducible intro _)
  all_goals first
    | omega
    | contradiction
    | (exact nx _ _ (by omega) (lw_cl h))
set_option maxRecDepth 100000 in
set_option maxHeartbeats 4000000 in
theorem lw_14 {sc : Nat × (Nat → Int)} {Gm : Nat} {Q : pvO → pvM → Prop} {SW : Nat → pvL → pvM → Nat → Prop} (hc : pvCl2 sc Gm fL aL_law kL eL (some .boolean) bL_law uL_law Q SW) {z : pvM} {i : Int} {g : Nat} (h : lwI z) (hi : 0 ≤ i ∧ i + 5 ≤ sc.1 ∧ (sc.1 : Int) ≤ 2147483647) (hg : g + 2 ≤ Gm)
    (nx : ∀ (z' : pvM) (g' : Nat), g' ≤ g + 1 → lwI z' → SW 2760 (lwL i) z' g') : SW 1108 (lwL i) z g := by
  refine hc 20 _ _ _ _ fun _ _ => ?_
  clear hc
  simp only [pvSt2]
  have t4 : z.1 17 4 = z.1 39 12 := h.2.1.1.2.1
  have t7 : z.1 20 4 = z.1 39 7 := h.2.2.1.2.1
  simp only [C_X9_wordLength, C_X10_wordLength, pvRt2, pvTh2, ne_eq, pvE_aload_n1, pvLA_s, pvLd, pvE_invokevirtual, pvC1_s, pvC2_s, pvAf_v, pvAf_x, pvPop, pvCs, pvCat, pvPush, aL_law_199, pvSh_0, pvSh_39, pvSh_58, pvSh_59, pvE_aload_n2, aL_law_202, pvE_icmp_eq, pvE_iconst, pvE_ireturn, bL_law_1108, uL_law_1108, bL_law_2760, uL_law_2760, pvMk_t, pvMk_f, pvMk_n, pvRecv_r, pvUp_nl, pvUp_same, pvUp_ap, pvSt_ap, pvX_c, pvX_ms, pvX_mn, pvE_nil, pvEn_i, pvEn_r, pvEn_l, pvEn_0, pvEn_s, pvRt, pvRv, pvTh, pvKc, pvGo, pvTgt, Int.toNat_natCast, false_and, and_false, true_and, and_true, if_true, if_false, reduceIte, reduceCtorEq, forall_const, false_or, or_false, true_or, or_true, ne_eq, not_true_eq_false, not_false_eq_true, implies_true, false_implies, Nat.reduceAdd, Nat.reduceSub, Nat.reduceMul, Nat.reduceEqDiff, Nat.reduceLT, Nat.reduceLeDiff, Int.reduceAdd, Int.reduceSub, Int.reduceMul, Int.reduceNeg, Int.reduceToNat, Int.reduceLE, Int.reduceLT, Int.reduceEq, Int.reduceNe, and_self]
  (repeat' first | with_reducible apply And.intro | with_reducible intro _)
  all_goals first
    | omega
    | contradiction
    | (exact nx _ _ (by omega) (lwI_u h))
set_option maxRecDepth 100000 in
set_option maxHeartbeats 4000000 in
theorem lw_15 {sc : Nat × (Nat → Int)} {Gm : Nat} {Q : pvO → pvM → Prop} {SW : Nat → pvL → pvM → Nat → Prop} (hc : pvCl2 sc Gm fL aL_law kL eL (some .boolean) bL_law uL_law Q SW) {z : pvM} {i : Int} {g : Nat} (h : lwI z) (hi : 0 ≤ i ∧ i + 5 ≤ sc.1 ∧ (sc.1 : Int) ≤ 2147483647) (hg : g + 2 ≤ Gm)
    (nx : ∀ (z' : pvM) (g' : Nat), g' ≤ g + 1 → lwI z' → SW 2760 (lwL i) z' g') : SW 1121 (lwL i) z g := by
  refine hc 20 _ _ _ _ fun _ _ => ?_
  clear hc
  simp only [pvSt2]
  simp only [pvE_aload_n1, pvLA_s, pvLd, pvE_aload_n0, pvE_iload, pvLI_s, pvE_iconst, pvE_iadd, pvE_iaload, pvAI, pvSh_0, pvSh_39, pvSh_58, pvSh_59, pvE_aload_n3, pvE_invokestatic (h0 := eL_203), pvC1_s, pvC2_s, pvAf_v, pvAf_x, pvPop, pvCs, pvCat, pvPush, aL_law_203, pvE_istore, pvS1, List.length_cons, List.length_nil, pvClr_i, pvClr_r, pvClr_l, pvClr_d, pvClr_f, pvClr_n, pvE_aload_n2, pvE_invokevirtual, aL_law_205, aL_law_150, pvE_icmp_eq, pvE_ireturn, pvE_if_ne, pvE_laload, pvAL, pvE_i2l, pvE_lcmp, pvE_if_eq, pvE_goto, bL_law_1121, uL_law_1121, bL_law_1169, uL_law_1169, bL_law_1186, uL_law_1186, bL_law_2760, uL_law_2760, pvMk_t, pvMk_f, pvMk_n, pvRecv_r, pvUp_nl, pvUp_same, pvUp_ap, pvSt_ap, pvX_c, pvX_ms, pvX_mn, pvE_nil, pvEn_i, pvEn_r, pvEn_l, pvEn_0, pvEn_s, pvRt, pvRv, pvTh, pvKc, pvGo, pvTgt, Int.toNat_natCast, false_and, and_false, true_and, and_true, if_true, if_false, reduceIte, reduceCtorEq, forall_const, false_or, or_false, true_or, or_true, ne_eq, not_true_eq_false, not_false_eq_true, implies_true, false_implies, Nat.reduceAdd, Nat.reduceSub, Nat.reduceMul, Nat.reduceEqDiff, Nat.reduceLT, Nat.reduceLeDiff, Int.reduceAdd, Int.reduceSub, Int.reduceMul, Int.reduceNeg, Int.reduceToNat, Int.reduceLE, Int.reduceLT, Int.reduceEq, Int.reduceNe, and_self]
  (repeat' first | with_reducible apply And.intro | with_reducible intro _)
  all_goals first
    | omega
    | (refine lc_event h (fun k z1 R => ?_)
       simp only [pvE_aload_n1, pvLA_s, pvLd, pvE_aload_n0, pvE_iload, pvLI_s, pvE_iconst, pvE_iadd, pvE_iaload, pvAI, pvSh_0, pvSh_39, pvSh_58, pvSh_59, pvE_aload_n3, pvE_invokestatic (h0 := eL_203), pvC1_s, pvC2_s, pvAf_v, pvAf_x, pvPop, pvCs, pvCat, pvPush, aL_law_203, pvE_istore, pvS1, List.length_cons, List.length_nil, pvClr_i, pvClr_r, pvClr_l, pvClr_d, pvClr_f, pvClr_n, pvE_aload_n2, pvE_invokevirtual, aL_law_205, aL_law_150, pvE_icmp_eq, pvE_ireturn, pvE_if_ne, pvE_laload, pvAL, pvE_i2l, pvE_lcmp, pvE_if_eq, pvE_goto, bL_law_1121, uL_law_1121, bL_law_1169, uL_law_1169, bL_law_1186, uL_law_1186, bL_law_2760, uL_law_2760, pvMk_t, pvMk_f, pvMk_n, pvRecv_r, pvUp_nl, pvUp_same, pvUp_ap, pvSt_ap, pvX_c, pvX_ms, pvX_mn, pvE_nil, pvEn_i, pvEn_r, pvEn_l, pvEn_0, pvEn_s, pvRt, pvRv, pvTh, pvKc, pvGo, pvTgt, Int.toNat_natCast, false_and, and_false, true_and, and_true, if_true, if_false, reduceIte, reduceCtorEq, forall_const, false_or, or_false, true_or, or_true, ne_eq, not_true_eq_false, not_false_eq_true, implies_true, false_implies, Nat.reduceAdd, Nat.reduceSub, Nat.reduceMul, Nat.reduceEqDiff, Nat.reduceLT, Nat.reduceLeDiff, Int.reduceAdd, Int.reduceSub, Int.reduceMul, Int.reduceNeg, Int.reduceToNat, Int.reduceLE, Int.reduceLT, Int.reduceEq, Int.reduceNe, and_self]
       (repeat' first | with_reducible apply And.intro | with_reducible intro _)
       all_goals first
         | omega
         | (refine R _ (fun b z2 e8 eb hI => ?_)
            simp only [C_X10_thrown, e8, pvRt2, pvTh2, pvE_aload_n1, pvLA_s, pvLd, pvE_aload_n0, pvE_iload, pvLI_s, pvE_iconst, pvE_iadd, pvE_iaload, pvAI, pvSh_0, pvSh_39, pvSh_58, pvSh_59, pvE_aload_n3, pvE_invokestatic (h0 := eL_203), pvC1_s, pvC2_s, pvAf_v, pvAf_x, pvPop, pvCs, pvCat, pvPush, aL_law_203, pvE_istore, pvS1, List.length_cons, List.length_nil, pvClr_i, pvClr_r, pvClr_l, pvClr_d, pvClr_f, pvClr_n, pvE_aload_n2, pvE_invokevirtual, aL_law_205, aL_law_150, pvE_icmp_eq, pvE_ireturn, pvE_if_ne, pvE_laload, pvAL, pvE_i2l, pvE_lcmp, pvE_if_eq, pvE_goto, bL_law_1121, uL_law_1121, bL_law_1169, uL_law_1169, bL_law_1186, uL_law_1186, bL_law_2760, uL_law_2760, pvMk_t, pvMk_f, pvMk_n, pvRecv_r, pvUp_nl, pvUp_same, pvUp_ap, pvSt_ap, pvX_c, pvX_ms, pvX_mn, pvE_nil, pvEn_i, pvEn_r, pvEn_l, pvEn_0, pvEn_s, pvRt, pvRv, pvTh, pvKc, pvGo, pvTgt, Int.toNat_natCast, false_and, and_false, true_and, and_true, if_true, if_false, reduceIte, reduceCtorEq, forall_const, false_or, or_false, true_or, or_true, ne_eq, not_true_eq_false, not_false_eq_true, implies_true, false_implies, Nat.reduceAdd, Nat.reduceSub, Nat.reduceMul, Nat.reduceEqDiff, Nat.reduceLT, Nat.reduceLeDiff, Int.reduceAdd, Int.reduceSub, Int.reduceMul, Int.reduceNeg, Int.reduceToNat, Int.reduceLE, Int.reduceLT, Int.reduceEq, Int.reduceNe, and_self]
            (repeat' first | with_reducible apply And.intro | with_reducible intro _)
            all_goals first
              | omega
              | contradiction
              | (exact nx _ _ (by omega) hI)
              | (exact ef)
              | (rename k = 0 => k0; have eb1 := eb k0; exact eb1.2.1)
              | (rename k = 0 => k0; have eb1 := eb k0; exact eb1.2.2)
              | (rename k = 0 => k0; have eb1 := eb k0; rw [eb1.1]; first | exact eb1.2.1 | exact eb1.2.2)
              | (rename ¬ k ≠ 0 => k0; have eb1 := eb (by omega); first | exact eb1.2.1 | exact eb1.2.2 | (rw [eb1.1]; first | exact eb1.2.1 | exact eb1.2.2) | (rw [eb1]; split <;> omega))
              | (exfalso; have eb1 := eb (by omega); simp only [eb1] at *; simp_all)
              | (exfalso; have eb1 := (eb (by omega)).1; simp only [eb1] at *; simp_all)))
set_option maxRecDepth 100000 in
set_option maxHeartbeats 4000000 in
theorem lw_16 {sc : Nat × (Nat → Int)} {Gm : Nat} {Q : pvO → pvM → Prop} {SW : Nat → pvL → pvM → Nat → Prop} (hc : pvCl2 sc Gm fL aL_law kL eL (some .boolean) bL_law uL_law Q SW) {z : pvM} {i : Int} {g : Nat} (h : lwI z) (hi : 0 ≤ i ∧ i + 5 ≤ sc.1 ∧ (sc.1 : Int) ≤ 2147483647) (hg : g + 2 ≤ Gm)
    (nx : ∀ (z' : pvM) (g' : Nat), g' ≤ g + 1 → lwI z' → SW 2760 (lwL i) z' g') : SW 1189 (lwL i) z g := by
  refine hc 20 _ _ _ _ fun _ _ => ?_
  clear hc
  simp only [pvSt2]
  simp only [pvE_aload_n1, pvLA_s, pvLd, pvE_aload_n0, pvE_iload, pvLI_s, pvE_iconst, pvE_iadd, pvE_iaload, pvAI, pvSh_0, pvSh_39, pvSh_58, pvSh_59, pvE_aload_n3, pvE_invokestatic (h0 := eL_206), pvC1_s, pvC2_s, pvAf_v, pvAf_x, pvPop, pvCs, pvCat, pvPush, aL_law_206, pvE_istore, pvS1, List.length_cons, List.length_nil, pvClr_i, pvClr_r, pvClr_l, pvClr_d, pvClr_f, pvClr_n, pvE_aload_n2, pvE_invokevirtual, aL_law_208, aL_law_150, pvE_icmp_eq, pvE_ireturn, pvE_if_ne, pvE_laload, pvAL, pvE_i2l, pvE_lcmp, pvE_if_eq, pvE_goto, bL_law_1189, uL_law_1189, bL_law_1225, uL_law_1225, bL_law_1242, uL_law_1242, bL_law_2760, uL_law_2760, pvMk_t, pvMk_f, pvMk_n, pvRecv_r, pvUp_nl, pvUp_same, pvUp_ap, pvSt_ap, pvX_c, pvX_ms, pvX_mn, pvE_nil, pvEn_i, pvEn_r, pvEn_l, pvEn_0, pvEn_s, pvRt, pvRv, pvTh, pvKc, pvGo, pvTgt, Int.toNat_natCast, false_and, and_false, true_and, and_true, if_true, if_false, reduceIte, reduceCtorEq, forall_const, false_or, or_false, true_or, or_true, ne_eq, not_true_eq_false, not_false_eq_true, implies_true, false_implies, Nat.reduceAdd, Nat.reduceSub, Nat.reduceMul, Nat.reduceEqDiff, Nat.reduceLT, Nat.reduceLeDiff, Int.reduceAdd, Int.reduceSub, Int.reduceMul, Int.reduceNeg, Int.reduceToNat, Int.reduceLE, Int.reduceLT, Int.reduceEq, Int.reduceNe, and_self]
  (repeat' first | with_reducible apply And.intro | with_reducible intro _)
  all_goals first
    | omega
    | (refine lc_valuationBefore h (fun k z1 R => ?_)
       simp only [pvE_aload_n1, pvLA_s, pvLd, pvE_aload_n0, pvE_iload, pvLI_s, pvE_iconst, pvE_iadd, pvE_iaload, pvAI, pvSh_0, pvSh_39, pvSh_58, pvSh_59, pvE_aload_n3, pvE_invokestatic (h0 := eL_206), pvC1_s, pvC2_s, pvAf_v, pvAf_x, pvPop, pvCs, pvCat, pvPush, aL_law_206, pvE_istore, pvS1, List.length_cons, List.length_nil, pvClr_i, pvClr_r, pvClr_l, pvClr_d, pvClr_f, pvClr_n, pvE_aload_n2, pvE_invokevirtual, aL_law_208, aL_law_150, pvE_icmp_eq, pvE_ireturn, pvE_if_ne, pvE_laload, pvAL, pvE_i2l, pvE_lcmp, pvE_if_eq, pvE_goto, bL_law_1189, uL_law_1189, bL_law_1225, uL_law_1225, bL_law_1242, uL_law_1242, bL_law_2760, uL_law_2760, pvMk_t, pvMk_f, pvMk_n, pvRecv_r, pvUp_nl, pvUp_same, pvUp_ap, pvSt_ap, pvX_c, pvX_ms, pvX_mn, pvE_nil, pvEn_i, pvEn_r, pvEn_l, pvEn_0, pvEn_s, pvRt, pvRv, pvTh, pvKc, pvGo, pvTgt, Int.toNat_natCast, false_and, and_false, true_and, and_true, if_true, if_false, reduceIte, reduceCtorEq, forall_const, false_or, or_false, true_or, or_true, ne_eq, not_true_eq_false, not_false_eq_true, implies_true, false_implies, Nat.reduceAdd, Nat.reduceSub, Nat.reduceMul, Nat.reduceEqDiff, Nat.reduceLT, Nat.reduceLeDiff, Int.reduceAdd, Int.reduceSub, Int.reduceMul, Int.reduceNeg, Int.reduceToNat, Int.reduceLE, Int.reduceLT, Int.reduceEq, Int.reduceNe, and_self]
       (repeat' first | with_reducible apply And.intro | with_reducible intro _)
       all_goals first
         | omega
         | (refine R _ (fun b z2 e8 eb hI => ?_)
            simp only [C_X10_thrown, e8, pvRt2, pvTh2, pvE_aload_n1, pvLA_s, pvLd, pvE_aload_n0, pvE_iload, pvLI_s, pvE_iconst, pvE_iadd, pvE_iaload, pvAI, pvSh_0, pvSh_39, pvSh_58, pvSh_59, pvE_aload_n3, pvE_invokestatic (h0 := eL_206), pvC1_s, pvC2_s, pvAf_v, pvAf_x, pvPop, pvCs, pvCat, pvPush, aL_law_206, pvE_istore, pvS1, List.length_cons, List.length_nil, pvClr_i, pvClr_r, pvClr_l, pvClr_d, pvClr_f, pvClr_n, pvE_aload_n2, pvE_invokevirtual, aL_law_208, aL_law_150, pvE_icmp_eq, pvE_ireturn, pvE_if_ne, pvE_laload, pvAL, pvE_i2l, pvE_lcmp, pvE_if_eq, pvE_goto, bL_law_1189, uL_law_1189, bL_law_1225, uL_law_1225, bL_law_1242, uL_law_1242, bL_law_2760, uL_law_2760, pvMk_t, pvMk_f, pvMk_n, pvRecv_r, pvUp_nl, pvUp_same, pvUp_ap, pvSt_ap, pvX_c, pvX_ms, pvX_mn, pvE_nil, pvEn_i, pvEn_r, pvEn_l, pvEn_0, pvEn_s, pvRt, pvRv, pvTh, pvKc, pvGo, pvTgt, Int.toNat_natCast, false_and, and_false, true_and, and_true, if_true, if_false, reduceIte, reduceCtorEq, forall_const, false_or, or_false, true_or, or_true, ne_eq, not_true_eq_false, not_false_eq_true, implies_true, false_implies, Nat.reduceAdd, Nat.reduceSub, Nat.reduceMul, Nat.reduceEqDiff, Nat.reduceLT, Nat.reduceLeDiff, Int.reduceAdd, Int.reduceSub, Int.reduceMul, Int.reduceNeg, Int.reduceToNat, Int.reduceLE, Int.reduceLT, Int.reduceEq, Int.reduceNe, and_self]
            (repeat' first | with_reducible apply And.intro | with_reducible intro _)
            all_goals first
              | omega
              | contradiction
              | (exact nx _ _ (by omega) hI)
              | (exact ef)
              | (rename k = 0 => k0; have eb1 := eb k0; exact eb1.2.1)
              | (rename k = 0 => k0; have eb1 := eb k0; exact eb1.2.2)
              | (rename k = 0 => k0; have eb1 := eb k0; rw [eb1.1]; first | exact eb1.2.1 | exact eb1.2.2)
              | (rename ¬ k ≠ 0 => k0; have eb1 := eb (by omega); first | exact eb1.2.1 | exact eb1.2.2 | (rw [eb1.1]; first | exact eb1.2.1 | exact eb1.2.2) | (rw [eb1]; split <;> omega))
              | (exfalso; have eb1 := eb (by omega); simp only [eb1] at *; simp_all)
              | (exfalso; have eb1 := (eb (by omega)).1; simp only [eb1] at *; simp_all)))
set_option maxRecDepth 100000 in
set_option maxHeartbeats 4000000 in
theorem lw_17 {sc : Nat × (Nat → Int)} {Gm : Nat} {Q : pvO → pvM → Prop} {SW : Nat → pvL → pvM → Nat → Prop} (hc : pvCl2 sc Gm fL aL_law kL eL (some .boolean) bL_law uL_law Q SW) {z : pvM} {i : Int} {g : Nat} (h : lwI z) (hi : 0 ≤ i ∧ i + 5 ≤ sc.1 ∧ (sc.1 : Int) ≤ 2147483647) (hg : g + 2 ≤ Gm)
    (nx : ∀ (z' : pvM) (g' : Nat), g' ≤ g + 1 → lwI z' → SW 2760 (lwL i) z' g') : SW 1245 (lwL i) z g := by
  refine hc 20 _ _ _ _ fun _ _ => ?_
  clear hc
  simp only [pvSt2]
  simp only [pvE_aload_n1, pvLA_s, pvLd, pvE_aload_n0, pvE_iload, pvLI_s, pvE_iconst, pvE_iadd, pvE_iaload, pvAI, pvSh_0, pvSh_39, pvSh_58, pvSh_59, pvE_aload_n3, pvE_invokestatic (h0 := eL_209), pvC1_s, pvC2_s, pvAf_v, pvAf_x, pvPop, pvCs, pvCat, pvPush, aL_law_209, pvE_istore, pvS1, List.length_cons, List.length_nil, pvClr_i, pvClr_r, pvClr_l, pvClr_d, pvClr_f, pvClr_n, pvE_aload_n2, pvE_invokevirtual, aL_law_211, aL_law_150, pvE_icmp_eq, pvE_ireturn, pvE_if_ne, pvE_laload, pvAL, pvE_i2l, pvE_lcmp, pvE_if_eq, pvE_goto, bL_law_1245, uL_law_1245, bL_law_1293, uL_law_1293, bL_law_1310, uL_law_1310, bL_law_2760, uL_law_2760, pvMk_t, pvMk_f, pvMk_n, pvRecv_r, pvUp_nl, pvUp_same, pvUp_ap, pvSt_ap, pvX_c, pvX_ms, pvX_mn, pvE_nil, pvEn_i, pvEn_r, pvEn_l, pvEn_0, pvEn_s, pvRt, pvRv, pvTh, pvKc, pvGo, pvTgt, Int.toNat_natCast, false_and, and_false, true_and, and_true, if_true, if_false, reduceIte, reduceCtorEq, forall_const, false_or, or_false, true_or, or_true, ne_eq, not_true_eq_false, not_false_eq_true, implies_true, false_implies, Nat.reduceAdd, Nat.reduceSub, Nat.reduceMul, Nat.reduceEqDiff, Nat.reduceLT, Nat.reduceLeDiff, Int.reduceAdd, Int.reduceSub, Int.reduceMul, Int.reduceNeg, Int.reduceToNat, Int.reduceLE, Int.reduceLT, Int.reduceEq, Int.reduceNe, and_self]
  (repeat' first | with_reducible apply And.intro | with_reducible intro _)
  all_goals first
    | omega
    | (refine lc_statesAfter h (fun k z1 R => ?_)
       simp only [pvE_aload_n1, pvLA_s, pvLd, pvE_aload_n0, pvE_iload, pvLI_s, pvE_iconst, pvE_iadd, pvE_iaload, pvAI, pvSh_0, pvSh_39, pvSh_58, pvSh_59, pvE_aload_n3, pvE_invokestatic (h0 := eL_209), pvC1_s, pvC2_s, pvAf_v, pvAf_x, pvPop, pvCs, pvCat, pvPush, aL_law_209, pvE_istore, pvS1, List.length_cons, List.length_nil, pvClr_i, pvClr_r, pvClr_l, pvClr_d, pvClr_f, pvClr_n, pvE_aload_n2, pvE_invokevirtual, aL_law_211, aL_law_150, pvE_icmp_eq, pvE_ireturn, pvE_if_ne, pvE_laload, pvAL, pvE_i2l, pvE_lcmp, pvE_if_eq, pvE_goto, bL_law_1245, uL_law_1245, bL_law_1293, uL_law_1293, bL_law_1310, uL_law_1310, bL_law_2760, uL_law_2760, pvMk_t, pvMk_f, pvMk_n, pvRecv_r, pvUp_nl, pvUp_same, pvUp_ap, pvSt_ap, pvX_c, pvX_ms, pvX_mn, pvE_nil, pvEn_i, pvEn_r, pvEn_l, pvEn_0, pvEn_s, pvRt, pvRv, pvTh, pvKc, pvGo, pvTgt, Int.toNat_natCast, false_and, and_false, true_and, and_true, if_true, if_false, reduceIte, reduceCtorEq, forall_const, false_or, or_false, true_or, or_true, ne_eq, not_true_eq_false, not_false_eq_true, implies_true, false_implies, Nat.reduceAdd, Nat.reduceSub, Nat.reduceMul, Nat.reduceEqDiff, Nat.reduceLT, Nat.reduceLeDiff, Int.reduceAdd, Int.reduceSub, Int.reduceMul, Int.reduceNeg, Int.reduceToNat, Int.reduceLE, Int.reduceLT, Int.reduceEq, Int.reduceNe, and_self]
       (repeat' first | with_reducible apply And.intro | with_reducible intro _)
       all_goals first
         | omega
         | (refine R _ (fun b z2 e8 eb hI => ?_)
            simp only [C_X10_thrown, e8, pvRt2, pvTh2, pvE_aload_n1, pvLA_s, pvLd, pvE_aload_n0, pvE_iload, pvLI_s, pvE_iconst, pvE_iadd, pvE_iaload, pvAI, pvSh_0, pvSh_39, pvSh_58, pvSh_59, pvE_aload_n3, pvE_invokestatic (h0 := eL_209), pvC1_s, pvC2_s, pvAf_v, pvAf_x, pvPop, pvCs, pvCat, pvPush, aL_law_209, pvE_istore, pvS1, List.length_cons, List.length_nil, pvClr_i, pvClr_r, pvClr_l, pvClr_d, pvClr_f, pvClr_n, pvE_aload_n2, pvE_invokevirtual, aL_law_211, aL_law_150, pvE_icmp_eq, pvE_ireturn, pvE_if_ne, pvE_laload, pvAL, pvE_i2l, pvE_lcmp, pvE_if_eq, pvE_goto, bL_law_1245, uL_law_1245, bL_law_1293, uL_law_1293, bL_law_1310, uL_law_1310, bL_law_2760, uL_law_2760, pvMk_t, pvMk_f, pvMk_n, pvRecv_r, pvUp_nl, pvUp_same, pvUp_ap, pvSt_ap, pvX_c, pvX_ms, pvX_mn, pvE_nil, pvEn_i, pvEn_r, pvEn_l, pvEn_0, pvEn_s, pvRt, pvRv, pvTh, pvKc, pvGo, pvTgt, Int.toNat_natCast, false_and, and_false, true_and, and_true, if_true, if_false, reduceIte, reduceCtorEq, forall_const, false_or, or_false, true_or, or_true, ne_eq, not_true_eq_false, not_false_eq_true, implies_true, false_implies, Nat.reduceAdd, Nat.reduceSub, Nat.reduceMul, Nat.reduceEqDiff, Nat.reduceLT, Nat.reduceLeDiff, Int.reduceAdd, Int.reduceSub, Int.reduceMul, Int.reduceNeg, Int.reduceToNat, Int.reduceLE, Int.reduceLT, Int.reduceEq, Int.reduceNe, and_self]
            (repeat' first | with_reducible apply And.intro | with_reducible intro _)
            all_goals first
              | omega
              | contradiction
              | (exact nx _ _ (by omega) hI)
              | (exact ef)
              | (rename k = 0 => k0; have eb1 := eb k0; exact eb1.2.1)
              | (rename k = 0 => k0; have eb1 := eb k0; exact eb1.2.2)
              | (rename k = 0 => k0; have eb1 := eb k0; rw [eb1.1]; first | exact eb1.2.1 | exact eb1.2.2)
              | (rename ¬ k ≠ 0 => k0; have eb1 := eb (by omega); first | exact eb1.2.1 | exact eb1.2.2 | (rw [eb1.1]; first | exact eb1.2.1 | exact eb1.2.2) | (rw [eb1]; split <;> omega))
              | (exfalso; have eb1 := eb (by omega); simp only [eb1] at *; simp_all)
              | (exfalso; have eb1 := (eb (by omega)).1; simp only [eb1] at *; simp_all)))
set_option maxRecDepth 100000 in
set_option maxHeartbeats 4000000 in
theorem lw_18 {sc : Nat × (Nat → Int)} {Gm : Nat} {Q : pvO → pvM → Prop} {SW : Nat → pvL → pvM → Nat → Prop} (hc : pvCl2 sc Gm fL aL_law kL eL (some .boolean) bL_law uL_law Q SW) {z : pvM} {i : Int} {g : Nat} (h : lwI z) (hi : 0 ≤ i ∧ i + 5 ≤ sc.1 ∧ (sc.1 : Int) ≤ 2147483647) (hg : g + 2 ≤ Gm)
    (nx : ∀ (z' : pvM) (g' : Nat), g' ≤ g + 1 → lwI z' → SW 2760 (lwL i) z' g') : SW 1313 (lwL i) z g := by
  refine hc 20 _ _ _ _ fun _ _ => ?_
  clear hc
  simp only [pvSt2]
  simp only [pvE_aload_n1, pvLA_s, pvLd, pvE_aload_n0, pvE_iload, pvLI_s, pvE_iconst, pvE_iadd, pvE_iaload, pvAI, pvSh_0, pvSh_39, pvSh_58, pvSh_59, pvE_aload_n3, pvE_invokestatic (h0 := eL_212), pvC1_s, pvC2_s, pvAf_v, pvAf_x, pvPop, pvCs, pvCat, pvPush, aL_law_212, pvE_istore, pvS1, List.length_cons, List.length_nil, pvClr_i, pvClr_r, pvClr_l, pvClr_d, pvClr_f, pvClr_n, pvE_aload_n2, pvE_invokevirtual, aL_law_214, aL_law_150, pvE_icmp_eq, pvE_ireturn, pvE_if_ne, pvE_laload, pvAL, pvE_if_eq, pvE_lconst1, pvE_goto, pvE_lconst0, pvE_lcmp, bL_law_1313, uL_law_1313, bL_law_1349, uL_law_1349, bL_law_1366, uL_law_1366, bL_law_1367, uL_law_1367, bL_law_1373, uL_law_1373, bL_law_2760, uL_law_2760, pvMk_t, pvMk_f, pvMk_n, pvRecv_r, pvUp_nl, pvUp_same, pvUp_ap, pvSt_ap, pvX_c, pvX_ms, pvX_mn, pvE_nil, pvEn_i, pvEn_r, pvEn_l, pvEn_0, pvEn_s, pvRt, pvRv, pvTh, pvKc, pvGo, pvTgt, Int.toNat_natCast, false_and, and_false, true_and, and_true, if_true, if_false, reduceIte, reduceCtorEq, forall_const, false_or, or_false, true_or, or_true, ne_eq, not_true_eq_false, not_false_eq_true, implies_true, false_implies, Nat.reduceAdd, Nat.reduceSub, Nat.reduceMul, Nat.reduceEqDiff, Nat.reduceLT, Nat.reduceLeDiff, Int.reduceAdd, Int.reduceSub, Int.reduceMul, Int.reduceNeg, Int.reduceToNat, Int.reduceLE, Int.reduceLT, Int.reduceEq, Int.reduceNe, and_self]
  (repeat' first | with_reducible apply And.intro | with_reducible intro _)
  all_goals first
    | omega
    | (refine lc_accepts h (fun k z1 R => ?_)
       simp only [pvE_aload_n1, pvLA_s, pvLd, pvE_aload_n0, pvE_iload, pvLI_s, pvE_iconst, pvE_iadd, pvE_iaload, pvAI, pvSh_0, pvSh_39, pvSh_58, pvSh_59, pvE_aload_n3, pvE_invokestatic (h0 := eL_212), pvC1_s, pvC2_s, pvAf_v, pvAf_x, pvPop, pvCs, pvCat, pvPush, aL_law_212, pvE_istore, pvS1, List.length_cons, List.length_nil, pvClr_i, pvClr_r, pvClr_l, pvClr_d, pvClr_f, pvClr_n, pvE_aload_n2, pvE_invokevirtual, aL_law_214, aL_law_150, pvE_icmp_eq, pvE_ireturn, pvE_if_ne, pvE_laload, pvAL, pvE_if_eq, pvE_lconst1, pvE_goto, pvE_lconst0, pvE_lcmp, bL_law_1313, uL_law_1313, bL_law_1349, uL_law_1349, bL_law_1366, uL_law_1366, bL_law_1367, uL_law_1367, bL_law_1373, uL_law_1373, bL_law_2760, uL_law_2760, pvMk_t, pvMk_f, pvMk_n, pvRecv_r, pvUp_nl, pvUp_same, pvUp_ap, pvSt_ap, pvX_c, pvX_ms, pvX_mn, pvE_nil, pvEn_i, pvEn_r, pvEn_l, pvEn_0, pvEn_s, pvRt, pvRv, pvTh, pvKc, pvGo, pvTgt, Int.toNat_natCast, false_and, and_false, true_and, and_true, if_true, if_false, reduceIte, reduceCtorEq, forall_const, false_or, or_false, true_or, or_true, ne_eq, not_true_eq_false, not_false_eq_true, implies_true, false_implies, Nat.reduceAdd, Nat.reduceSub, Nat.reduceMul, Nat.reduceEqDiff, Nat.reduceLT, Nat.reduceLeDiff, Int.reduceAdd, Int.reduceSub, Int.reduceMul, Int.reduceNeg, Int.reduceToNat, Int.reduceLE, Int.reduceLT, Int.reduceEq, Int.reduceNe, and_self]
       (repeat' first | with_reducible apply And.intro | with_reducible intro _)
       all_goals first
         | omega
         | (refine R _ (fun b z2 e8 eb hI => ?_)
            simp only [C_X10_thrown, e8, pvRt2, pvTh2, pvE_aload_n1, pvLA_s, pvLd, pvE_aload_n0, pvE_iload, pvLI_s, pvE_iconst, pvE_iadd, pvE_iaload, pvAI, pvSh_0, pvSh_39, pvSh_58, pvSh_59, pvE_aload_n3, pvE_invokestatic (h0 := eL_212), pvC1_s, pvC2_s, pvAf_v, pvAf_x, pvPop, pvCs, pvCat, pvPush, aL_law_212, pvE_istore, pvS1, List.length_cons, List.length_nil, pvClr_i, pvClr_r, pvClr_l, pvClr_d, pvClr_f, pvClr_n, pvE_aload_n2, pvE_invokevirtual, aL_law_214, aL_law_150, pvE_icmp_eq, pvE_ireturn, pvE_if_ne, pvE_laload, pvAL, pvE_if_eq, pvE_lconst1, pvE_goto, pvE_lconst0, pvE_lcmp, bL_law_1313, uL_law_1313, bL_law_1349, uL_law_1349, bL_law_1366, uL_law_1366, bL_law_1367, uL_law_1367, bL_law_1373, uL_law_1373, bL_law_2760, uL_law_2760, pvMk_t, pvMk_f, pvMk_n, pvRecv_r, pvUp_nl, pvUp_same, pvUp_ap, pvSt_ap, pvX_c, pvX_ms, pvX_mn, pvE_nil, pvEn_i, pvEn_r, pvEn_l, pvEn_0, pvEn_s, pvRt, pvRv, pvTh, pvKc, pvGo, pvTgt, Int.toNat_natCast, false_and, and_false, true_and, and_true, if_true, if_false, reduceIte, reduceCtorEq, forall_const, false_or, or_false, true_or, or_true, ne_eq, not_true_eq_false, not_false_eq_true, implies_true, false_implies, Nat.reduceAdd, Nat.reduceSub, Nat.reduceMul, Nat.reduceEqDiff, Nat.reduceLT, Nat.reduceLeDiff, Int.reduceAdd, Int.reduceSub, Int.reduceMul, Int.reduceNeg, Int.reduceToNat, Int.reduceLE, Int.reduceLT, Int.reduceEq, Int.reduceNe, and_self]
            (repeat' first | with_reducible apply And.intro | with_reducible intro _)
            all_goals first
              | omega
              | contradiction
              | (exact nx _ _ (by omega) hI)
              | (exact ef)
              | (rename k = 0 => k0; have eb1 := eb k0; exact eb1.2.1)
              | (rename k = 0 => k0; have eb1 := eb k0; exact eb1.2.2)
              | (rename k = 0 => k0; have eb1 := eb k0; rw [eb1.1]; first | exact eb1.2.1 | exact eb1.2.2)
              | (rename ¬ k ≠ 0 => k0; have eb1 := eb (by omega); first | exact eb1.2.1 | exact eb1.2.2 | (rw [eb1.1]; first | exact eb1.2.1 | exact eb1.2.2) | (rw [eb1]; split <;> omega))
              | (exfalso; have eb1 := eb (by omega); simp only [eb1] at *; simp_all)
              | (exfalso; have eb1 := (eb (by omega)).1; simp only [eb1] at *; simp_all)))
set_option maxRecDepth 100000 in
set_option maxHeartbeats 4000000 in
theorem lw_19 {sc : Nat × (Nat → Int)} {Gm : Nat} {Q : pvO → pvM → Prop} {SW : Nat → pvL → pvM → Nat → Prop} (hc : pvCl2 sc Gm fL aL_law kL eL (some .boolean) bL_law uL_law Q SW) {z : pvM} {i : Int} {g : Nat} (h : lwI z) (hi : 0 ≤ i ∧ i + 5 ≤ sc.1 ∧ (sc.1 : Int) ≤ 2147483647) (hg : g + 2 ≤ Gm)
    (nx : ∀ (z' : pvM) (g' : Nat), g' ≤ g + 1 → lwI z' → SW 2760 (lwL i) z' g') : SW 1376 (lwL i) z g := by
  refine hc 20 _ _ _ _ fun _ _ => ?_
  clear hc
  simp only [pvSt2]
  simp only [pvE_aload_n1, pvLA_s, pvLd, pvE_aload_n0, pvE_iload, pvLI_s, pvE_iconst, pvE_iadd, pvE_iaload, pvAI, pvSh_0, pvSh_39, pvSh_58, pvSh_59, pvE_aload_n3, pvE_invokestatic (h0 := eL_215), pvC1_s, pvC2_s, pvAf_v, pvAf_x, pvPop, pvCs, pvCat, pvPush, aL_law_215, pvE_istore, pvS1, List.length_cons, List.length_nil, pvClr_i, pvClr_r, pvClr_l, pvClr_d, pvClr_f, pvClr_n, pvE_aload_n2, pvE_invokevirtual, aL_law_217, pvE_lstore, pvS2, aL_law_150, pvE_icmp_eq, pvE_ireturn, pvE_if_ne, pvE_laload, pvAL, pvE_lload, pvLL_s, pvE_lcmp, pvE_if_eq, pvE_goto, bL_law_1376, uL_law_1376, bL_law_1412, uL_law_1412, bL_law_1428, uL_law_1428, bL_law_2760, uL_law_2760, pvMk_t, pvMk_f, pvMk_n, pvRecv_r, pvUp_nl, pvUp_same, pvUp_ap, pvSt_ap, pvX_c, pvX_ms, pvX_mn, pvE_nil, pvEn_i, pvEn_r, pvEn_l, pvEn_0, pvEn_s, pvRt, pvRv, pvTh, pvKc, pvGo, pvTgt, Int.toNat_natCast, false_and, and_false, true_and, and_true, if_true, if_false, reduceIte, reduceCtorEq, forall_const, false_or, or_false, true_or, or_true, ne_eq, not_true_eq_false, not_false_eq_true, implies_true, false_implies, Nat.reduceAdd, Nat.reduceSub, Nat.reduceMul, Nat.reduceEqDiff, Nat.reduceLT, Nat.reduceLeDiff, Int.reduceAdd, Int.reduceSub, Int.reduceMul, Int.reduceNeg, Int.reduceToNat, Int.reduceLE, Int.reduceLT, Int.reduceEq, Int.reduceNe, and_self]
  (repeat' first | with_reducible apply And.intro | with_reducible intro _)
  all_goals first
    | omega
    | (refine lc_runCount h (fun k z1 R => ?_)
       simp only [pvE_aload_n1, pvLA_s, pvLd, pvE_aload_n0, pvE_iload, pvLI_s, pvE_iconst, pvE_iadd, pvE_iaload, pvAI, pvSh_0, pvSh_39, pvSh_58, pvSh_59, pvE_aload_n3, pvE_invokestatic (h0 := eL_215), pvC1_s, pvC2_s, pvAf_v, pvAf_x, pvPop, pvCs, pvCat, pvPush, aL_law_215, pvE_istore, pvS1, List.length_cons, List.length_nil, pvClr_i, pvClr_r, pvClr_l, pvClr_d, pvClr_f, pvClr_n, pvE_aload_n2, pvE_invokevirtual, aL_law_217, pvE_lstore, pvS2, aL_law_150, pvE_icmp_eq, pvE_ireturn, pvE_if_ne, pvE_laload, pvAL, pvE_lload, pvLL_s, pvE_lcmp, pvE_if_eq, pvE_goto, bL_law_1376, uL_law_1376, bL_law_1412, uL_law_1412, bL_law_1428, uL_law_1428, bL_law_2760, uL_law_2760, pvMk_t, pvMk_f, pvMk_n, pvRecv_r, pvUp_nl, pvUp_same, pvUp_ap, pvSt_ap, pvX_c, pvX_ms, pvX_mn, pvE_nil, pvEn_i, pvEn_r, pvEn_l, pvEn_0, pvEn_s, pvRt, pvRv, pvTh, pvKc, pvGo, pvTgt, Int.toNat_natCast, false_and, and_false, true_and, and_true, if_true, if_false, reduceIte, reduceCtorEq, forall_const, false_or, or_false, true_or, or_true, ne_eq, not_true_eq_false, not_false_eq_true, implies_true, false_implies, Nat.reduceAdd, Nat.reduceSub, Nat.reduceMul, Nat.reduceEqDiff, Nat.reduceLT, Nat.reduceLeDiff, Int.reduceAdd, Int.reduceSub, Int.reduceMul, Int.reduceNeg, Int.reduceToNat, Int.reduceLE, Int.reduceLT, Int.reduceEq, Int.reduceNe, and_self]
       (repeat' first | with_reducible apply And.intro | with_reducible intro _)
       all_goals first
         | omega
         | (refine R _ (fun b z2 e8 eb hI => ?_)
            simp only [C_X10_thrown, e8, pvRt2, pvTh2, pvE_aload_n1, pvLA_s, pvLd, pvE_aload_n0, pvE_iload, pvLI_s, pvE_iconst, pvE_iadd, pvE_iaload, pvAI, pvSh_0, pvSh_39, pvSh_58, pvSh_59, pvE_aload_n3, pvE_invokestatic (h0 := eL_215), pvC1_s, pvC2_s, pvAf_v, pvAf_x, pvPop, pvCs, pvCat, pvPush, aL_law_215, pvE_istore, pvS1, List.length_cons, List.length_nil, pvClr_i, pvClr_r, pvClr_l, pvClr_d, pvClr_f, pvClr_n, pvE_aload_n2, pvE_invokevirtual, aL_law_217, pvE_lstore, pvS2, aL_law_150, pvE_icmp_eq, pvE_ireturn, pvE_if_ne, pvE_laload, pvAL, pvE_lload, pvLL_s, pvE_lcmp, pvE_if_eq, pvE_goto, bL_law_1376, uL_law_1376, bL_law_1412, uL_law_1412, bL_law_1428, uL_law_1428, bL_law_2760, uL_law_2760, pvMk_t, pvMk_f, pvMk_n, pvRecv_r, pvUp_nl, pvUp_same, pvUp_ap, pvSt_ap, pvX_c, pvX_ms, pvX_mn, pvE_nil, pvEn_i, pvEn_r, pvEn_l, pvEn_0, pvEn_s, pvRt, pvRv, pvTh, pvKc, pvGo, pvTgt, Int.toNat_natCast, false_and, and_false, true_and, and_true, if_true, if_false, reduceIte, reduceCtorEq, forall_const, false_or, or_false, true_or, or_true, ne_eq, not_true_eq_false, not_false_eq_true, implies_true, false_implies, Nat.reduceAdd, Nat.reduceSub, Nat.reduceMul, Nat.reduceEqDiff, Nat.reduceLT, Nat.reduceLeDiff, Int.reduceAdd, Int.reduceSub, Int.reduceMul, Int.reduceNeg, Int.reduceToNat, Int.reduceLE, Int.reduceLT, Int.reduceEq, Int.reduceNe, and_self]
            (repeat' first | with_reducible apply And.intro | with_reducible intro _)
            all_goals first
              | omega
              | contradiction
              | (exact nx _ _ (by omega) hI)
              | (exact ef)
              | (rename k = 0 => k0; have eb1 := eb k0; exact eb1.2.1)
              | (rename k = 0 => k0; have eb1 := eb k0; exact eb1.2.2)
              | (rename k = 0 => k0; have eb1 := eb k0; rw [eb1.1]; first | exact eb1.2.1 | exact eb1.2.2)
              | (rename ¬ k ≠ 0 => k0; have eb1 := eb (by omega); first | exact eb1.2.1 | exact eb1.2.2 | (rw [eb1.1]; first | exact eb1.2.1 | exact eb1.2.2) | (rw [eb1]; split <;> omega))
              | (exfalso; have eb1 := eb (by omega); simp only [eb1] at *; simp_all)
              | (exfalso; have eb1 := (eb (by omega)).1; simp only [eb1] at *; simp_all)))
set_option maxRecDepth 100000 in
set_option maxHeartbeats 4000000 in
theorem lw_20 {sc : Nat × (Nat → Int)} {Gm : Nat} {Q : pvO → pvM → Prop} {SW : Nat → pvL → pvM → Nat → Prop} (hc : pvCl2 sc Gm fL aL_law kL eL (some .boolean) bL_law uL_law Q SW) {z : pvM} {i : Int} {g : Nat} (h : lwI z) (hi : 0 ≤ i ∧ i + 5 ≤ sc.1 ∧ (sc.1 : Int) ≤ 2147483647) (hg : g + 2 ≤ Gm)
    (nx : ∀ (z' : pvM) (g' : Nat), g' ≤ g + 1 → lwI z' → SW 2760 (lwL i) z' g') : SW 1431 (lwL i) z g := by
  refine hc 20 _ _ _ _ fun _ _ => ?_
  clear hc
  simp only [pvSt2]
  simp only [pvE_aload_n1, pvLA_s, pvLd, pvE_aload_n0, pvE_iload, pvLI_s, pvE_iconst, pvE_iadd, pvE_iaload, pvAI, pvSh_0, pvSh_39, pvSh_58, pvSh_59, pvE_aload_n3, pvE_invokestatic (h0 := eL_218), pvC1_s, pvC2_s, pvAf_v, pvAf_x, pvPop, pvCs, pvCat, pvPush, aL_law_218, pvE_istore, pvS1, List.length_cons, List.length_nil, pvClr_i, pvClr_r, pvClr_l, pvClr_d, pvClr_f, pvClr_n, pvE_aload_n2, pvE_invokevirtual, aL_law_220, pvE_lstore, pvS2, aL_law_150, pvE_icmp_eq, pvE_ireturn, pvE_if_ne, pvE_laload, pvAL, pvE_lload, pvLL_s, pvE_lcmp, pvE_if_eq, pvE_goto, bL_law_1431, uL_law_1431, bL_law_1467, uL_law_1467, bL_law_1483, uL_law_1483, bL_law_2760, uL_law_2760, pvMk_t, pvMk_f, pvMk_n, pvRecv_r, pvUp_nl, pvUp_same, pvUp_ap, pvSt_ap, pvX_c, pvX_ms, pvX_mn, pvE_nil, pvEn_i, pvEn_r, pvEn_l, pvEn_0, pvEn_s, pvRt, pvRv, pvTh, pvKc, pvGo, pvTgt, Int.toNat_natCast, false_and, and_false, true_and, and_true, if_true, if_false, reduceIte, reduceCtorEq, forall_const, false_or, or_false, true_or, or_true, ne_eq, not_true_eq_false, not_false_eq_true, implies_true, false_implies, Nat.reduceAdd, Nat.reduceSub, Nat.reduceMul, Nat.reduceEqDiff, Nat.reduceLT, Nat.reduceLeDiff, Int.reduceAdd, Int.reduceSub, Int.reduceMul, Int.reduceNeg, Int.reduceToNat, Int.reduceLE, Int.reduceLT, Int.reduceEq, Int.reduceNe, and_self]
  (repeat' first | with_reducible apply And.intro | with_reducible intro _)
  all_goals first
    | omega
    | (refine lc_acceptingRuns h (fun k z1 R => ?_)
       simp only [pvE_aload_n1, pvLA_s, pvLd, pvE_aload_n0, pvE_iload, pvLI_s, pvE_iconst, pvE_iadd, pvE_iaload, pvAI, pvSh_0, pvSh_39, pvSh_58, pvSh_59, pvE_aload_n3, pvE_invokestatic (h0 := eL_218), pvC1_s, pvC2_s, pvAf_v, pvAf_x, pvPop, pvCs, pvCat, pvPush, aL_law_218, pvE_istore, pvS1, List.length_cons, List.length_nil, pvClr_i, pvClr_r, pvClr_l, pvClr_d, pvClr_f, pvClr_n, pvE_aload_n2, pvE_invokevirtual, aL_law_220, pvE_lstore, pvS2, aL_law_150, pvE_icmp_eq, pvE_ireturn, pvE_if_ne, pvE_laload, pvAL, pvE_lload, pvLL_s, pvE_lcmp, pvE_if_eq, pvE_goto, bL_law_1431, uL_law_1431, bL_law_1467, uL_law_1467, bL_law_1483, uL_law_1483, bL_law_2760, uL_law_2760, pvMk_t, pvMk_f, pvMk_n, pvRecv_r, pvUp_nl, pvUp_same, pvUp_ap, pvSt_ap, pvX_c, pvX_ms, pvX_mn, pvE_nil, pvEn_i, pvEn_r, pvEn_l, pvEn_0, pvEn_s, pvRt, pvRv, pvTh, pvKc, pvGo, pvTgt, Int.toNat_natCast, false_and, and_false, true_and, and_true, if_true, if_false, reduceIte, reduceCtorEq, forall_const, false_or, or_false, true_or, or_true, ne_eq, not_true_eq_false, not_false_eq_true, implies_true, false_implies, Nat.reduceAdd, Nat.reduceSub, Nat.reduceMul, Nat.reduceEqDiff, Nat.reduceLT, Nat.reduceLeDiff, Int.reduceAdd, Int.reduceSub, Int.reduceMul, Int.reduceNeg, Int.reduceToNat, Int.reduceLE, Int.reduceLT, Int.reduceEq, Int.reduceNe, and_self]
       (repeat' first | with_reducible apply And.intro | with_reducible intro _)
       all_goals first
         | omega
         | (refine R _ (fun b z2 e8 eb hI => ?_)
            simp only [C_X10_thrown, e8, pvRt2, pvTh2, pvE_aload_n1, pvLA_s, pvLd, pvE_aload_n0, pvE_iload, pvLI_s, pvE_iconst, pvE_iadd, pvE_iaload, pvAI, pvSh_0, pvSh_39, pvSh_58, pvSh_59, pvE_aload_n3, pvE_invokestatic (h0 := eL_218), pvC1_s, pvC2_s, pvAf_v, pvAf_x, pvPop, pvCs, pvCat, pvPush, aL_law_218, pvE_istore, pvS1, List.length_cons, List.length_nil, pvClr_i, pvClr_r, pvClr_l, pvClr_d, pvClr_f, pvClr_n, pvE_aload_n2, pvE_invokevirtual, aL_law_220, pvE_lstore, pvS2, aL_law_150, pvE_icmp_eq, pvE_ireturn, pvE_if_ne, pvE_laload, pvAL, pvE_lload, pvLL_s, pvE_lcmp, pvE_if_eq, pvE_goto, bL_law_1431, uL_law_1431, bL_law_1467, uL_law_1467, bL_law_1483, uL_law_1483, bL_law_2760, uL_law_2760, pvMk_t, pvMk_f, pvMk_n, pvRecv_r, pvUp_nl, pvUp_same, pvUp_ap, pvSt_ap, pvX_c, pvX_ms, pvX_mn, pvE_nil, pvEn_i, pvEn_r, pvEn_l, pvEn_0, pvEn_s, pvRt, pvRv, pvTh, pvKc, pvGo, pvTgt, Int.toNat_natCast, false_and, and_false, true_and, and_true, if_true, if_false, reduceIte, reduceCtorEq, forall_const, false_or, or_false, true_or, or_true, ne_eq, not_true_eq_false, not_false_eq_true, implies_true, false_implies, Nat.reduceAdd, Nat.reduceSub, Nat.reduceMul, Nat.reduceEqDiff, Nat.reduceLT, Nat.reduceLeDiff, Int.reduceAdd, Int.reduceSub, Int.reduceMul, Int.reduceNeg, Int.reduceToNat, Int.reduceLE, Int.reduceLT, Int.reduceEq, Int.reduceNe, and_self]
            (repeat' first | with_reducible apply And.intro | with_reducible intro _)
            all_goals first
              | omega
              | contradiction
              | (exact nx _ _ (by omega) hI)
              | (exact ef)
              | (rename k = 0 => k0; have eb1 := eb k0; exact eb1.2.1)
              | (rename k = 0 => k0; have eb1 := eb k0; exact eb1.2.2)
              | (rename k = 0 => k0; have eb1 := eb k0; rw [eb1.1]; first | exact eb1.2.1 | exact eb1.2.2)
              | (rename ¬ k ≠ 0 => k0; have eb1 := eb (by omega); first | exact eb1.2.1 | exact eb1.2.2 | (rw [eb1.1]; first | exact eb1.2.1 | exact eb1.2.2) | (rw [eb1]; split <;> omega))
              | (exfalso; have eb1 := eb (by omega); simp only [eb1] at *; simp_all)
              | (exfalso; have eb1 := (eb (by omega)).1; simp only [eb1] at *; simp_all)))
