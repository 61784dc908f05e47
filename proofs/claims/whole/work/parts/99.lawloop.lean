/-! the law: its loop -/
set_option maxRecDepth 100000 in
set_option maxHeartbeats 4000000 in
theorem lw_next {sc : Nat × (Nat → Int)} {Gm : Nat} {Q : pvO → pvM → Prop} {SW : Nat → pvL → pvM → Nat → Prop} (hc : pvCl2 sc Gm fL aL_law kL eL (some .boolean) bL_law uL_law Q SW) {z : pvM} {i : Int} {g : Nat} (hi : 0 ≤ i ∧ i + 5 ≤ sc.1 ∧ (sc.1 : Int) ≤ 2147483647) (nx : SW 28 (lwL (i + 5)) z g) : SW 2760 (lwL i) z g := by
  refine hc 20 _ _ _ _ fun _ _ => ?_
  clear hc
  simp only [pvSt2]
  simp only [pvE_iinc, pvIc_s, pvLd, pvS1, List.length_cons, List.length_nil, pvClr_i, pvClr_r, pvClr_l, pvClr_d, pvClr_f, pvClr_n, pvE_goto, bL_law_28, uL_law_28, bL_law_2760, uL_law_2760, pvMk_t, pvMk_f, pvMk_n, pvRecv_r, pvUp_nl, pvUp_same, pvUp_ap, pvSt_ap, pvX_c, pvX_ms, pvX_mn, pvE_nil, pvEn_i, pvEn_r, pvEn_l, pvEn_0, pvEn_s, pvRt, pvRv, pvTh, pvKc, pvGo, pvTgt, Int.toNat_natCast, false_and, and_false, true_and, and_true, if_true, if_false, reduceIte, reduceCtorEq, forall_const, false_or, or_false, true_or, or_true, ne_eq, not_true_eq_false, not_false_eq_true, implies_true, false_implies, Nat.reduceAdd, Nat.reduceSub, Nat.reduceMul, Nat.reduceEqDiff, Nat.reduceLT, Nat.reduceLeDiff, Int.reduceAdd, Int.reduceSub, Int.reduceMul, Int.reduceNeg, Int.reduceToNat, Int.reduceLE, Int.reduceLT, Int.reduceEq, Int.reduceNe, and_self]
  (repeat' first | with_reducible apply And.intro | with_reducible intro _)
  all_goals first
    | omega
    | exact nx
set_option maxRecDepth 100000 in
set_option maxHeartbeats 4000000 in
theorem lw_head {sc : Nat × (Nat → Int)} {Gm : Nat} {Q : pvO → pvM → Prop} {SW : Nat → pvL → pvM → Nat → Prop} (hc : pvCl2 sc Gm fL aL_law kL eL (some .boolean) bL_law uL_law Q SW) (fin : ∀ z, Q (.inl (some (vI 1))) z) (m : Nat) : ∀ (z : pvM) (i : Int) (g : Nat), lwI z → 0 ≤ i ∧ i ≤ 2147483647 ∧ (sc.1 : Int) ≤ 2147483647 → (sc.1 : Int) - i ≤ 5 * m → g + m + 2 ≤ Gm → SW 28 (lwL i) z g := by
  induction m with
  | zero =>
    intro z i g h hi hm hg
    refine hc 20 _ _ _ _ fun _ _ => ?_
    clear hc
    simp only [pvSt2]
    simp only [pvRt2, pvE_iload, pvLI_s, pvLd, pvE_aload_n0, pvLA_s, pvE_arraylength, pvAn, pvE_iconst, pvE_isub, pvE_icmp_gt, pvE_iaload, pvAI, pvE_bipush, pvE_iand, pvE_tableswitch, pvSw, pvE_ireturn, bL_law_28, uL_law_28, bL_law_2766, uL_law_2766, pvMk_t, pvMk_f, pvMk_n, uL_law_224, uL_law_280, uL_law_293, uL_law_385, uL_law_453, uL_law_556, uL_law_659, uL_law_695, uL_law_731, uL_law_787, uL_law_867, uL_law_959, uL_law_1027, uL_law_1095, uL_law_1108, uL_law_1121, uL_law_1189, uL_law_1245, uL_law_1313, uL_law_1376, uL_law_1431, uL_law_1486, uL_law_1554, uL_law_1610, uL_law_1690, uL_law_1746, uL_law_1814, uL_law_1894, uL_law_1986, uL_law_2078, uL_law_2134, uL_law_2197, uL_law_2260, uL_law_2316, uL_law_2372, uL_law_2435, uL_law_2514, uL_law_2603, uL_law_2681, uL_law_2725, uL_law_2736, uL_law_2760, List.size_toArray, List.length_cons, List.length_nil, pvRecv_r, pvUp_nl, pvUp_same, pvUp_ap, pvSt_ap, pvX_c, pvX_ms, pvX_mn, pvE_nil, pvEn_i, pvEn_r, pvEn_l, pvEn_0, pvEn_s, pvRt, pvRv, pvTh, pvKc, pvGo, pvTgt, Int.toNat_natCast, false_and, and_false, true_and, and_true, if_true, if_false, reduceIte, reduceCtorEq, forall_const, false_or, or_false, true_or, or_true, ne_eq, not_true_eq_false, not_false_eq_true, implies_true, false_implies, Nat.reduceAdd, Nat.reduceSub, Nat.reduceMul, Nat.reduceEqDiff, Nat.reduceLT, Nat.reduceLeDiff, Int.reduceAdd, Int.reduceSub, Int.reduceMul, Int.reduceNeg, Int.reduceToNat, Int.reduceLE, Int.reduceLT, Int.reduceEq, Int.reduceNe, and_self]
    (repeat' first | with_reducible apply And.intro | with_reducible intro _)
    all_goals first
      | omega
      | exact fin _
  | succ m ih =>
    intro z i g h hi hm hg
    have nx : i + 5 ≤ sc.1 → ∀ (z' : pvM) (g' : Nat), g' ≤ g + 1 → lwI z' → SW 2760 (lwL i) z' g' := fun h5 z' g' hg' hz' =>
      lw_next hc ⟨hi.1, h5, hi.2.2⟩ (ih z' (i + 5) g' hz' ⟨by omega, by omega, hi.2.2⟩ (by omega) (by omega))
    refine hc 20 _ _ _ _ fun _ _ => ?_
    simp only [pvSt2]
    simp only [pvRt2, pvE_iload, pvLI_s, pvLd, pvE_aload_n0, pvLA_s, pvE_arraylength, pvAn, pvE_iconst, pvE_isub, pvE_icmp_gt, pvE_iaload, pvAI, pvE_bipush, pvE_iand, pvE_tableswitch, pvSw, pvE_ireturn, bL_law_28, uL_law_28, bL_law_2766, uL_law_2766, pvMk_t, pvMk_f, pvMk_n, uL_law_224, uL_law_280, uL_law_293, uL_law_385, uL_law_453, uL_law_556, uL_law_659, uL_law_695, uL_law_731, uL_law_787, uL_law_867, uL_law_959, uL_law_1027, uL_law_1095, uL_law_1108, uL_law_1121, uL_law_1189, uL_law_1245, uL_law_1313, uL_law_1376, uL_law_1431, uL_law_1486, uL_law_1554, uL_law_1610, uL_law_1690, uL_law_1746, uL_law_1814, uL_law_1894, uL_law_1986, uL_law_2078, uL_law_2134, uL_law_2197, uL_law_2260, uL_law_2316, uL_law_2372, uL_law_2435, uL_law_2514, uL_law_2603, uL_law_2681, uL_law_2725, uL_law_2736, uL_law_2760, List.size_toArray, List.length_cons, List.length_nil, pvRecv_r, pvUp_nl, pvUp_same, pvUp_ap, pvSt_ap, pvX_c, pvX_ms, pvX_mn, pvE_nil, pvEn_i, pvEn_r, pvEn_l, pvEn_0, pvEn_s, pvRt, pvRv, pvTh, pvKc, pvGo, pvTgt, Int.toNat_natCast, false_and, and_false, true_and, and_true, if_true, if_false, reduceIte, reduceCtorEq, forall_const, false_or, or_false, true_or, or_true, ne_eq, not_true_eq_false, not_false_eq_true, implies_true, false_implies, Nat.reduceAdd, Nat.reduceSub, Nat.reduceMul, Nat.reduceEqDiff, Nat.reduceLT, Nat.reduceLeDiff, Int.reduceAdd, Int.reduceSub, Int.reduceMul, Int.reduceNeg, Int.reduceToNat, Int.reduceLE, Int.reduceLT, Int.reduceEq, Int.reduceNe, and_self]
    (repeat' first | with_reducible apply And.intro | with_reducible intro _)
    all_goals first
      | omega
      | exact fin _
      | exact nx (by omega) _ _ (by omega) h
      | exact lw_0 hc h ⟨hi.1, by omega, hi.2.2⟩ (by omega) (nx (by omega))
      | exact lw_1 hc h ⟨hi.1, by omega, hi.2.2⟩ (by omega) (nx (by omega))
      | exact lw_2 hc h ⟨hi.1, by omega, hi.2.2⟩ (by omega) (nx (by omega))
      | exact lw_3 hc h ⟨hi.1, by omega, hi.2.2⟩ (by omega) (nx (by omega))
      | exact lw_4 hc h ⟨hi.1, by omega, hi.2.2⟩ (by omega) (nx (by omega))
      | exact lw_5 hc h ⟨hi.1, by omega, hi.2.2⟩ (by omega) (nx (by omega))
      | exact lw_6 hc h ⟨hi.1, by omega, hi.2.2⟩ (by omega) (nx (by omega))
      | exact lw_7 hc h ⟨hi.1, by omega, hi.2.2⟩ (by omega) (nx (by omega))
      | exact lw_8 hc h ⟨hi.1, by omega, hi.2.2⟩ (by omega) (nx (by omega))
      | exact lw_9 hc h ⟨hi.1, by omega, hi.2.2⟩ (by omega) (nx (by omega))
      | exact lw_10 hc h ⟨hi.1, by omega, hi.2.2⟩ (by omega) (nx (by omega))
      | exact lw_11 hc h ⟨hi.1, by omega, hi.2.2⟩ (by omega) (nx (by omega))
      | exact lw_12 hc h ⟨hi.1, by omega, hi.2.2⟩ (by omega) (nx (by omega))
      | exact lw_13 hc h ⟨hi.1, by omega, hi.2.2⟩ (by omega) (nx (by omega))
      | exact lw_14 hc h ⟨hi.1, by omega, hi.2.2⟩ (by omega) (nx (by omega))
      | exact lw_15 hc h ⟨hi.1, by omega, hi.2.2⟩ (by omega) (nx (by omega))
      | exact lw_16 hc h ⟨hi.1, by omega, hi.2.2⟩ (by omega) (nx (by omega))
      | exact lw_17 hc h ⟨hi.1, by omega, hi.2.2⟩ (by omega) (nx (by omega))
      | exact lw_18 hc h ⟨hi.1, by omega, hi.2.2⟩ (by omega) (nx (by omega))
      | exact lw_19 hc h ⟨hi.1, by omega, hi.2.2⟩ (by omega) (nx (by omega))
      | exact lw_20 hc h ⟨hi.1, by omega, hi.2.2⟩ (by omega) (nx (by omega))
      | exact lw_21 hc h ⟨hi.1, by omega, hi.2.2⟩ (by omega) (nx (by omega))
      | exact lw_22 hc h ⟨hi.1, by omega, hi.2.2⟩ (by omega) (nx (by omega))
      | exact lw_23 hc h ⟨hi.1, by omega, hi.2.2⟩ (by omega) (nx (by omega))
      | exact lw_24 hc h ⟨hi.1, by omega, hi.2.2⟩ (by omega) (nx (by omega))
      | exact lw_25 hc h ⟨hi.1, by omega, hi.2.2⟩ (by omega) (nx (by omega))
      | exact lw_26 hc h ⟨hi.1, by omega, hi.2.2⟩ (by omega) (nx (by omega))
      | exact lw_27 hc h ⟨hi.1, by omega, hi.2.2⟩ (by omega) (nx (by omega))
      | exact lw_28 hc h ⟨hi.1, by omega, hi.2.2⟩ (by omega) (nx (by omega))
      | exact lw_29 hc h ⟨hi.1, by omega, hi.2.2⟩ (by omega) (nx (by omega))
      | exact lw_30 hc h ⟨hi.1, by omega, hi.2.2⟩ (by omega) (nx (by omega))
      | exact lw_31 hc h ⟨hi.1, by omega, hi.2.2⟩ (by omega) (nx (by omega))
      | exact lw_32 hc h ⟨hi.1, by omega, hi.2.2⟩ (by omega) (nx (by omega))
      | exact lw_33 hc h ⟨hi.1, by omega, hi.2.2⟩ (by omega) (nx (by omega))
      | exact lw_34 hc h ⟨hi.1, by omega, hi.2.2⟩ (by omega) (nx (by omega))
      | exact lw_35 hc h ⟨hi.1, by omega, hi.2.2⟩ (by omega) (nx (by omega))
      | exact lw_36 hc h ⟨hi.1, by omega, hi.2.2⟩ (by omega) (nx (by omega))
      | exact lw_37 hc h ⟨hi.1, by omega, hi.2.2⟩ (by omega) (nx (by omega))
      | exact lw_38 hc h ⟨hi.1, by omega, hi.2.2⟩ (by omega) (nx (by omega))
      | exact lw_39 hc h ⟨hi.1, by omega, hi.2.2⟩ (by omega) (nx (by omega))
      | exact lw_40 hc h ⟨hi.1, by omega, hi.2.2⟩ (by omega) (nx (by omega))
