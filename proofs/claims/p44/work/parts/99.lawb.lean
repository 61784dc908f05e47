/-! the law's own body: its end, the three searches -/
set_option maxRecDepth 100000 in
set_option maxHeartbeats 4000000 in
theorem okL_law614 {lim : Nat → Prop} {sc : Nat × (Nat → Int)} {Gm : Nat} {Rt : Option pvV → pvM → Nat → Prop} {SW : pvJ} (hG : 40 ≤ Gm) (hc : pvCloG lim sc fL (aL_law lim sc) kL Gm Rt bL_law uL_law SW) {z : pvM} {ini fin ini2 fin2 : Int} {t u : Nat}
    (hl : ∀ id, id < 39 → lim id) (hls : lsP z) (hA : auP lim z 0 t ini fin) (hB : auP lim z 1 u ini2 fin2) (hR : ∀ (z' : pvM) (g : Nat), g ≤ 30 → Rt (some (vI 1)) z' g) :
    SW 614 [none, some (vR 0), some (vI ini), some (vI fin), some (vI ini2), some (vI fin2), some (vR t), some (vR u), none, none, none, none, none, none, none] [] z 0 := by
  refine hc 40 _ _ _ _ _ fun _ _ _ => ?_
  clear hc
  simp only [pvStG]
  simp only [C_L_areBranches, C_L_isTaken, pvE_dup_i, pvE_dup_r, pvE_astore_n1, pvS1, List.length_cons, List.length_nil, pvClr_i, pvClr_r, pvClr_l, pvClr_d, pvClr_f, pvClr_n, pvE_iconst, pvE_aload_n0, pvLA_s, pvLd, pvE_bipush, pvE_invokestatic (Ex := fun _ => none) (h0 := rfl), pvC1_s, pvC2_s, pvAf_v, pvAf_x, pvPop, pvCs, pvCat, pvPush, aL_law_64, pvE_iadd, pvE_istore_n2, pvE_istore_n3, pvE_istore, pvE_aload_n1, pvE_iload_n2, pvLI_s, pvE_iload_n3, aL_law_176, pvE_iload, pvE_astore, pvE_aload, pvE_ifnull, pvE_ifnonnull, pvE_ireturn, pvE_icmp_ge, pvE_iastore, pvE_iaload, pvE_invokevirtual, aL_law_184, pvSh_0, pvSh_1, pvSh_2, pvSh_3, pvSh_4, pvSh_5, pvSh_6, pvSh_7, pvSh_8, pvSh_9, pvSh_10, pvSh_11, pvSh_12, pvSh_13, pvSh_14, pvSh_15, pvSh_16, pvSh_17, pvSh_18, pvSh_19, pvSh_20, pvSh_21, pvSh_22, pvSh_23, pvSh_24, pvSh_25, pvSh_26, pvSh_27, pvSh_28, pvSh_29, pvSh_30, pvSh_31, pvSh_32, pvSh_33, pvSh_34, pvSh_35, pvSh_36, pvSh_37, pvSh_38, pvE_icmp_eq, pvE_iinc, pvIc_s, pvE_goto, aL_law_187, aL_law_90, pvE_imul, pvE_icmp_gt, aL_law_190, aL_law_119, pvE_icmp_ne, aL_law_152, pvE_iand, pvE_if_eq, aL_law_193, aL_law_158, pvE_lconst0, pvE_lstore, pvS2, pvE_sipush, pvE_idiv, pvE_irem, pvE_lload, pvLL_s, pvE_lconst1, pvE_ladd, aL_law_148, pvE_lcmp, pvE_if_ne, aL_law_196, pvE_l2d, pvE_ldc2_w_d (h0 := kL_200), pvE_ddiv, pvE_dcmp, aL_law_202, aL_law_206, bL_law_0, uL_law_0, bL_law_8, uL_law_8, bL_law_76, uL_law_76, bL_law_81, uL_law_81, bL_law_93, uL_law_93, bL_law_108, uL_law_108, bL_law_110, uL_law_110, bL_law_120, uL_law_120, bL_law_132, uL_law_132, bL_law_135, uL_law_135, bL_law_195, uL_law_195, bL_law_201, uL_law_201, bL_law_204, uL_law_204, bL_law_260, uL_law_260, bL_law_266, uL_law_266, bL_law_269, uL_law_269, bL_law_321, uL_law_321, bL_law_323, uL_law_323, bL_law_329, uL_law_329, bL_law_355, uL_law_355, bL_law_356, uL_law_356, bL_law_359, uL_law_359, bL_law_387, uL_law_387, bL_law_388, uL_law_388, bL_law_391, uL_law_391, bL_law_393, uL_law_393, bL_law_413, uL_law_413, bL_law_433, uL_law_433, bL_law_443, uL_law_443, bL_law_445, uL_law_445, bL_law_460, uL_law_460, bL_law_547, uL_law_547, bL_law_553, uL_law_553, bL_law_567, uL_law_567, bL_law_585, uL_law_585, bL_law_586, uL_law_586, bL_law_590, uL_law_590, bL_law_612, uL_law_612, bL_law_614, uL_law_614, bL_law_630, uL_law_630, bL_law_632, uL_law_632, bL_law_693, uL_law_693, bL_law_694, uL_law_694, pvMk_t, pvMk_f, pvMk_n, pvRtG, pvRecv_r, pvUp_nl, pvUp_same, pvUp_ap, pvSt_ap, pvX_c, pvX_ms, pvX_mn, pvE_nil, pvEn_i, pvEn_r, pvEn_l, pvEn_0, pvEn_s, pvRt, pvRv, pvTh, pvKc, pvGo, pvTgt, Int.toNat_natCast, false_and, and_false, true_and, and_true, if_true, if_false, reduceIte, reduceCtorEq, forall_const, false_or, or_false, true_or, or_true, ne_eq, not_true_eq_false, not_false_eq_true, implies_true, false_implies, Nat.reduceAdd, Nat.reduceSub, Nat.reduceMul, Nat.reduceEqDiff, Nat.reduceLT, Nat.reduceLeDiff, Int.reduceAdd, Int.reduceSub, Int.reduceMul, Int.reduceNeg, Int.reduceToNat, Int.reduceLE, Int.reduceLT, Int.reduceEq, Int.reduceNe, and_self]
  have h0 := hl 0 (by decide)
  have r0 : pvR 0 := by unfold pvR; omega
  have r1 : pvR 1 := by unfold pvR; omega
  have fp : ∀ {s : Int} {z z' : pvM}, pyF z s z' → frL lim z z' := fun {s z z'} h => frL_f h.1 fun x hx => by
    have := pw_o s
    simp at hx
    omega
  refine ⟨r0, by omega, ⟨h0, hls.1⟩, fun z1 p1 => ⟨r1, by omega, ⟨h0, p1.2.1⟩, fun z2 p2 => ?_⟩⟩
  have l2 := lsP_py (lsP_py hls p1) p2
  have f2 := frL_t (fp p1) (fp p2)
  refine ⟨r0, r0, by omega, ⟨hl, l2, auP_m hl hA f2, auP_m hl hB f2⟩, fun z3 l3 f3 => ?_⟩
  have f3' := frL_t f2 f3
  refine ⟨r0, r1, by omega, ⟨hl, l3, auP_m hl hA f3', auP_m hl hB f3'⟩, fun z4 l4 f4 => ?_⟩
  have f4' := frL_t f3' f4
  exact ⟨r1, r1, by omega, ⟨hl, l4, auP_m hl hB f4', auP_m hl hA f4'⟩, fun z5 _ _ => ⟨r1, hR z5 30 (by omega)⟩⟩
set_option maxRecDepth 100000 in
set_option maxHeartbeats 4000000 in
theorem okL_law590 {lim : Nat → Prop} {sc : Nat × (Nat → Int)} {Gm : Nat} {Rt : Option pvV → pvM → Nat → Prop} {SW : pvJ} (hG : 40 ≤ Gm) (hc : pvCloG lim sc fL (aL_law lim sc) kL Gm Rt bL_law uL_law SW) {z : pvM} {ini fin ini2 fin2 : Int} {t u : Nat}
    (hl : ∀ id, id < 39 → lim id) (hls : lsP z) (hA : auP lim z 0 t ini fin) (hB : auP lim z 1 u ini2 fin2) (hR : ∀ (z' : pvM) (g : Nat), g ≤ 30 → Rt (some (vI 1)) z' g) :
    SW 590 [none, some (vR 0), some (vI ini), some (vI fin), some (vI ini2), some (vI fin2), some (vR t), some (vR u), none, none, none, none, none, none, none] [] z 0 := by
  refine id hc 40 _ _ _ _ _ fun _ _ _ => ?_
  simp only [pvStG]
  simp only [C_X9_acceptedShare, C_X9_acceptedWords, pvE_dup_i, pvE_dup_r, pvE_astore_n1, pvS1, List.length_cons, List.length_nil, pvClr_i, pvClr_r, pvClr_l, pvClr_d, pvClr_f, pvClr_n, pvE_iconst, pvE_aload_n0, pvLA_s, pvLd, pvE_bipush, pvE_invokestatic (Ex := fun _ => none) (h0 := rfl), pvC1_s, pvC2_s, pvAf_v, pvAf_x, pvPop, pvCs, pvCat, pvPush, aL_law_64, pvE_iadd, pvE_istore_n2, pvE_istore_n3, pvE_istore, pvE_aload_n1, pvE_iload_n2, pvLI_s, pvE_iload_n3, aL_law_176, pvE_iload, pvE_astore, pvE_aload, pvE_ifnull, pvE_ifnonnull, pvE_ireturn, pvE_icmp_ge, pvE_iastore, pvE_iaload, pvE_invokevirtual, aL_law_184, pvSh_0, pvSh_1, pvSh_2, pvSh_3, pvSh_4, pvSh_5, pvSh_6, pvSh_7, pvSh_8, pvSh_9, pvSh_10, pvSh_11, pvSh_12, pvSh_13, pvSh_14, pvSh_15, pvSh_16, pvSh_17, pvSh_18, pvSh_19, pvSh_20, pvSh_21, pvSh_22, pvSh_23, pvSh_24, pvSh_25, pvSh_26, pvSh_27, pvSh_28, pvSh_29, pvSh_30, pvSh_31, pvSh_32, pvSh_33, pvSh_34, pvSh_35, pvSh_36, pvSh_37, pvSh_38, pvE_icmp_eq, pvE_iinc, pvIc_s, pvE_goto, aL_law_187, aL_law_90, pvE_imul, pvE_icmp_gt, aL_law_190, aL_law_119, pvE_icmp_ne, aL_law_152, pvE_iand, pvE_if_eq, aL_law_193, aL_law_158, pvE_lconst0, pvE_lstore, pvS2, pvE_sipush, pvE_idiv, pvE_irem, pvE_lload, pvLL_s, pvE_lconst1, pvE_ladd, aL_law_148, pvE_lcmp, pvE_if_ne, aL_law_196, pvE_l2d, pvE_ldc2_w_d (h0 := kL_200), pvE_ddiv, pvE_dcmp, aL_law_202, aL_law_206, bL_law_0, uL_law_0, bL_law_8, uL_law_8, bL_law_76, uL_law_76, bL_law_81, uL_law_81, bL_law_93, uL_law_93, bL_law_108, uL_law_108, bL_law_110, uL_law_110, bL_law_120, uL_law_120, bL_law_132, uL_law_132, bL_law_135, uL_law_135, bL_law_195, uL_law_195, bL_law_201, uL_law_201, bL_law_204, uL_law_204, bL_law_260, uL_law_260, bL_law_266, uL_law_266, bL_law_269, uL_law_269, bL_law_321, uL_law_321, bL_law_323, uL_law_323, bL_law_329, uL_law_329, bL_law_355, uL_law_355, bL_law_356, uL_law_356, bL_law_359, uL_law_359, bL_law_387, uL_law_387, bL_law_388, uL_law_388, bL_law_391, uL_law_391, bL_law_393, uL_law_393, bL_law_413, uL_law_413, bL_law_433, uL_law_433, bL_law_443, uL_law_443, bL_law_445, uL_law_445, bL_law_460, uL_law_460, bL_law_547, uL_law_547, bL_law_553, uL_law_553, bL_law_567, uL_law_567, bL_law_585, uL_law_585, bL_law_586, uL_law_586, bL_law_590, uL_law_590, bL_law_612, uL_law_612, bL_law_614, uL_law_614, bL_law_630, uL_law_630, bL_law_632, uL_law_632, bL_law_693, uL_law_693, bL_law_694, uL_law_694, pvMk_t, pvMk_f, pvMk_n, pvRtG, pvRecv_r, pvUp_nl, pvUp_same, pvUp_ap, pvSt_ap, pvX_c, pvX_ms, pvX_mn, pvE_nil, pvEn_i, pvEn_r, pvEn_l, pvEn_0, pvEn_s, pvRt, pvRv, pvTh, pvKc, pvGo, pvTgt, Int.toNat_natCast, false_and, and_false, true_and, and_true, if_true, if_false, reduceIte, reduceCtorEq, forall_const, false_or, or_false, true_or, or_true, ne_eq, not_true_eq_false, not_false_eq_true, implies_true, false_implies, Nat.reduceAdd, Nat.reduceSub, Nat.reduceMul, Nat.reduceEqDiff, Nat.reduceLT, Nat.reduceLeDiff, Int.reduceAdd, Int.reduceSub, Int.reduceMul, Int.reduceNeg, Int.reduceToNat, Int.reduceLE, Int.reduceLT, Int.reduceEq, Int.reduceNe, and_self]
  have h0 := hl 0 (by decide)
  have r0 : pvR 0 := by unfold pvR; omega
  have r2 : pvR 2 := by unfold pvR; omega
  have r4 : pvR 4 := by unfold pvR; omega
  have fa : ∀ {z z' : pvM}, frF [5, 6, 7, 8, 9, 10, 11, 12] [34, 35] z z' → frL lim z z' := fun {z z'} h => frL_f h fun x hx => by
    simp at hx
    omega
  have e225 : FP.l2d (Int64.ofInt (15 ^ 2)) = 4642120500284227584 := by decide +kernel
  refine ⟨r0, r2, by omega, h0, hls.1, fun z1 f1 p1 => ⟨r0, r2, r4, by omega, h0, p1, fun z2 f2 p2 => ?_⟩⟩
  have l2 := lsP_aw (lsP_aw hls f1 p1) f2 p2
  have f := frL_t (fa f1) (fa f2)
  have e1 : z1.1 (rwC 0) = z.1 (rwC 0) := frL_rw hl (fa f1) 0
  rw [e1, ← e225]
  have hn := shD_n (n := wdF (autC (z.1 (rwC 0))) 5 2 (3440 + (autC (z.1 (rwC 0))).2.1)) (e := 2) (by decide)
  have hd := dcmp_s hn
  unfold shD at hn hd ⊢
  rw [hd]
  exact ⟨hn, fun _ => okL_law614 hG hc hl l2 (auP_m hl hA f) (auP_m hl hB f) hR, fun h => absurd rfl h⟩
set_option maxRecDepth 100000 in
set_option maxHeartbeats 4000000 in
theorem okL_law567 {lim : Nat → Prop} {sc : Nat × (Nat → Int)} {Gm : Nat} {Rt : Option pvV → pvM → Nat → Prop} {SW : pvJ} (hG : 40 ≤ Gm) (hc : pvCloG lim sc fL (aL_law lim sc) kL Gm Rt bL_law uL_law SW) {z : pvM} {ini fin ini2 fin2 lo : Int} {t u : Nat}
    (hl : ∀ id, id < 39 → lim id) (hls : lsP z) (hlo : 0 ≤ lo ∧ lo ≤ 4) (hA : auP lim z 0 t ini fin) (hB : auP lim z 1 u ini2 fin2) (hR : ∀ (z' : pvM) (g : Nat), g ≤ 30 → Rt (some (vI 1)) z' g) :
    SW 567 [none, some (vR 0), some (vI ini), some (vI fin), some (vI ini2), some (vI fin2), some (vR t), some (vR u), none, none, none, some (vI lo), none, none, none] [] z 0 := by
  refine id hc 40 _ _ _ _ _ fun _ _ _ => ?_
  simp only [pvStG]
  simp only [C_X9_acceptedWords, pvE_dup_i, pvE_dup_r, pvE_astore_n1, pvS1, List.length_cons, List.length_nil, pvClr_i, pvClr_r, pvClr_l, pvClr_d, pvClr_f, pvClr_n, pvE_iconst, pvE_aload_n0, pvLA_s, pvLd, pvE_bipush, pvE_invokestatic (Ex := fun _ => none) (h0 := rfl), pvC1_s, pvC2_s, pvAf_v, pvAf_x, pvPop, pvCs, pvCat, pvPush, aL_law_64, pvE_iadd, pvE_istore_n2, pvE_istore_n3, pvE_istore, pvE_aload_n1, pvE_iload_n2, pvLI_s, pvE_iload_n3, aL_law_176, pvE_iload, pvE_astore, pvE_aload, pvE_ifnull, pvE_ifnonnull, pvE_ireturn, pvE_icmp_ge, pvE_iastore, pvE_iaload, pvE_invokevirtual, aL_law_184, pvSh_0, pvSh_1, pvSh_2, pvSh_3, pvSh_4, pvSh_5, pvSh_6, pvSh_7, pvSh_8, pvSh_9, pvSh_10, pvSh_11, pvSh_12, pvSh_13, pvSh_14, pvSh_15, pvSh_16, pvSh_17, pvSh_18, pvSh_19, pvSh_20, pvSh_21, pvSh_22, pvSh_23, pvSh_24, pvSh_25, pvSh_26, pvSh_27, pvSh_28, pvSh_29, pvSh_30, pvSh_31, pvSh_32, pvSh_33, pvSh_34, pvSh_35, pvSh_36, pvSh_37, pvSh_38, pvE_icmp_eq, pvE_iinc, pvIc_s, pvE_goto, aL_law_187, aL_law_90, pvE_imul, pvE_icmp_gt, aL_law_190, aL_law_119, pvE_icmp_ne, aL_law_152, pvE_iand, pvE_if_eq, aL_law_193, aL_law_158, pvE_lconst0, pvE_lstore, pvS2, pvE_sipush, pvE_idiv, pvE_irem, pvE_lload, pvLL_s, pvE_lconst1, pvE_ladd, aL_law_148, pvE_lcmp, pvE_if_ne, aL_law_196, pvE_l2d, pvE_ldc2_w_d (h0 := kL_200), pvE_ddiv, pvE_dcmp, aL_law_202, aL_law_206, bL_law_0, uL_law_0, bL_law_8, uL_law_8, bL_law_76, uL_law_76, bL_law_81, uL_law_81, bL_law_93, uL_law_93, bL_law_108, uL_law_108, bL_law_110, uL_law_110, bL_law_120, uL_law_120, bL_law_132, uL_law_132, bL_law_135, uL_law_135, bL_law_195, uL_law_195, bL_law_201, uL_law_201, bL_law_204, uL_law_204, bL_law_260, uL_law_260, bL_law_266, uL_law_266, bL_law_269, uL_law_269, bL_law_321, uL_law_321, bL_law_323, uL_law_323, bL_law_329, uL_law_329, bL_law_355, uL_law_355, bL_law_356, uL_law_356, bL_law_359, uL_law_359, bL_law_387, uL_law_387, bL_law_388, uL_law_388, bL_law_391, uL_law_391, bL_law_393, uL_law_393, bL_law_413, uL_law_413, bL_law_433, uL_law_433, bL_law_443, uL_law_443, bL_law_445, uL_law_445, bL_law_460, uL_law_460, bL_law_547, uL_law_547, bL_law_553, uL_law_553, bL_law_567, uL_law_567, bL_law_585, uL_law_585, bL_law_586, uL_law_586, bL_law_590, uL_law_590, bL_law_612, uL_law_612, bL_law_614, uL_law_614, bL_law_630, uL_law_630, bL_law_632, uL_law_632, bL_law_693, uL_law_693, bL_law_694, uL_law_694, pvMk_t, pvMk_f, pvMk_n, pvRtG, pvRecv_r, pvUp_nl, pvUp_same, pvUp_ap, pvSt_ap, pvX_c, pvX_ms, pvX_mn, pvE_nil, pvEn_i, pvEn_r, pvEn_l, pvEn_0, pvEn_s, pvRt, pvRv, pvTh, pvKc, pvGo, pvTgt, Int.toNat_natCast, false_and, and_false, true_and, and_true, if_true, if_false, reduceIte, reduceCtorEq, forall_const, false_or, or_false, true_or, or_true, ne_eq, not_true_eq_false, not_false_eq_true, implies_true, false_implies, Nat.reduceAdd, Nat.reduceSub, Nat.reduceMul, Nat.reduceEqDiff, Nat.reduceLT, Nat.reduceLeDiff, Int.reduceAdd, Int.reduceSub, Int.reduceMul, Int.reduceNeg, Int.reduceToNat, Int.reduceLE, Int.reduceLT, Int.reduceEq, Int.reduceNe, and_self]
  have h0 := hl 0 (by decide)
  have r0 : pvR 0 := by unfold pvR; omega
  have r2 : pvR 2 := by unfold pvR; omega
  have r4 : pvR 4 := by unfold pvR; omega
  have fa : ∀ {z z' : pvM}, frF [5, 6, 7, 8, 9, 10, 11, 12] [34, 35] z z' → frL lim z z' := fun {z z'} h => frL_f h fun x hx => by
    simp at hx
    omega
  obtain ⟨hA1, hA2, hA3⟩ := id hA
  have hw := wd_nil hA1.2.1 (lo.toNat + 1)
  have hb := wd_10 (autC (z.1 (rwC 0))) (show lo.toNat + 1 ≤ 5 by omega) (show 0 ≤ 10 by decide) (3440 + (autC (z.1 (rwC 0))).2.1)
  rw [← hA2, ← hA3] at hw
  rw [← hA2] at hb ⊢
  refine ⟨r0, r0, by omega, h0, hls.1, fun h => h hlo, fun _ z1 f1 p1 => ?_⟩
  have nx := okL_law590 hG hc hl (lsP_aw hls f1 p1) (auP_m hl hA (fa f1)) (auP_m hl hB (fa f1)) hR
  refine ⟨fun h => ?_, fun h => ?_⟩
  · rw [if_pos h] at hw
    rw [hw]
    exact ⟨⟨by unfold pvRL; omega, by unfold pvRL; omega⟩, fun h => absurd rfl h, fun _ => nx⟩
  · rw [if_neg h] at hw
    rw [hw]
    exact ⟨⟨by unfold pvRL; omega, by unfold pvRL; omega⟩, fun h => absurd rfl h, fun _ => nx⟩
set_option maxRecDepth 100000 in
set_option maxHeartbeats 4000000 in
theorem okL_law553 {lim : Nat → Prop} {sc : Nat × (Nat → Int)} {Gm : Nat} {Rt : Option pvV → pvM → Nat → Prop} {SW : pvJ} (hG : 40 ≤ Gm) (hc : pvCloG lim sc fL (aL_law lim sc) kL Gm Rt bL_law uL_law SW) {z : pvM} {ini fin ini2 fin2 lo mn : Int} {t u : Nat}
    (hl : ∀ id, id < 39 → lim id) (hls : lsP z) (hlo : 0 ≤ lo ∧ lo ≤ 4) (hA : auP lim z 0 t ini fin) (hB : auP lim z 1 u ini2 fin2) (hm : mn = wdF (autC (z.1 2)) (lo.toNat + 1) 2 (3440 + (autC (z.1 2)).2.1)) (hR : ∀ (z' : pvM) (g : Nat), g ≤ 30 → Rt (some (vI 1)) z' g) :
    SW 553 [none, some (vR 0), some (vI ini), some (vI fin), some (vI ini2), some (vI fin2), some (vR t), some (vR u), none, none, none, some (vI lo), some (vL mn), none, none] [] z 0 := by
  refine id hc 40 _ _ _ _ _ fun _ _ _ => ?_
  simp only [pvStG]
  simp only [C_X9_acceptedWords, pvE_dup_i, pvE_dup_r, pvE_astore_n1, pvS1, List.length_cons, List.length_nil, pvClr_i, pvClr_r, pvClr_l, pvClr_d, pvClr_f, pvClr_n, pvE_iconst, pvE_aload_n0, pvLA_s, pvLd, pvE_bipush, pvE_invokestatic (Ex := fun _ => none) (h0 := rfl), pvC1_s, pvC2_s, pvAf_v, pvAf_x, pvPop, pvCs, pvCat, pvPush, aL_law_64, pvE_iadd, pvE_istore_n2, pvE_istore_n3, pvE_istore, pvE_aload_n1, pvE_iload_n2, pvLI_s, pvE_iload_n3, aL_law_176, pvE_iload, pvE_astore, pvE_aload, pvE_ifnull, pvE_ifnonnull, pvE_ireturn, pvE_icmp_ge, pvE_iastore, pvE_iaload, pvE_invokevirtual, aL_law_184, pvSh_0, pvSh_1, pvSh_2, pvSh_3, pvSh_4, pvSh_5, pvSh_6, pvSh_7, pvSh_8, pvSh_9, pvSh_10, pvSh_11, pvSh_12, pvSh_13, pvSh_14, pvSh_15, pvSh_16, pvSh_17, pvSh_18, pvSh_19, pvSh_20, pvSh_21, pvSh_22, pvSh_23, pvSh_24, pvSh_25, pvSh_26, pvSh_27, pvSh_28, pvSh_29, pvSh_30, pvSh_31, pvSh_32, pvSh_33, pvSh_34, pvSh_35, pvSh_36, pvSh_37, pvSh_38, pvE_icmp_eq, pvE_iinc, pvIc_s, pvE_goto, aL_law_187, aL_law_90, pvE_imul, pvE_icmp_gt, aL_law_190, aL_law_119, pvE_icmp_ne, aL_law_152, pvE_iand, pvE_if_eq, aL_law_193, aL_law_158, pvE_lconst0, pvE_lstore, pvS2, pvE_sipush, pvE_idiv, pvE_irem, pvE_lload, pvLL_s, pvE_lconst1, pvE_ladd, aL_law_148, pvE_lcmp, pvE_if_ne, aL_law_196, pvE_l2d, pvE_ldc2_w_d (h0 := kL_200), pvE_ddiv, pvE_dcmp, aL_law_202, aL_law_206, bL_law_0, uL_law_0, bL_law_8, uL_law_8, bL_law_76, uL_law_76, bL_law_81, uL_law_81, bL_law_93, uL_law_93, bL_law_108, uL_law_108, bL_law_110, uL_law_110, bL_law_120, uL_law_120, bL_law_132, uL_law_132, bL_law_135, uL_law_135, bL_law_195, uL_law_195, bL_law_201, uL_law_201, bL_law_204, uL_law_204, bL_law_260, uL_law_260, bL_law_266, uL_law_266, bL_law_269, uL_law_269, bL_law_321, uL_law_321, bL_law_323, uL_law_323, bL_law_329, uL_law_329, bL_law_355, uL_law_355, bL_law_356, uL_law_356, bL_law_359, uL_law_359, bL_law_387, uL_law_387, bL_law_388, uL_law_388, bL_law_391, uL_law_391, bL_law_393, uL_law_393, bL_law_413, uL_law_413, bL_law_433, uL_law_433, bL_law_443, uL_law_443, bL_law_445, uL_law_445, bL_law_460, uL_law_460, bL_law_547, uL_law_547, bL_law_553, uL_law_553, bL_law_567, uL_law_567, bL_law_585, uL_law_585, bL_law_586, uL_law_586, bL_law_590, uL_law_590, bL_law_612, uL_law_612, bL_law_614, uL_law_614, bL_law_630, uL_law_630, bL_law_632, uL_law_632, bL_law_693, uL_law_693, bL_law_694, uL_law_694, pvMk_t, pvMk_f, pvMk_n, pvRtG, pvRecv_r, pvUp_nl, pvUp_same, pvUp_ap, pvSt_ap, pvX_c, pvX_ms, pvX_mn, pvE_nil, pvEn_i, pvEn_r, pvEn_l, pvEn_0, pvEn_s, pvRt, pvRv, pvTh, pvKc, pvGo, pvTgt, Int.toNat_natCast, false_and, and_false, true_and, and_true, if_true, if_false, reduceIte, reduceCtorEq, forall_const, false_or, or_false, true_or, or_true, ne_eq, not_true_eq_false, not_false_eq_true, implies_true, false_implies, Nat.reduceAdd, Nat.reduceSub, Nat.reduceMul, Nat.reduceEqDiff, Nat.reduceLT, Nat.reduceLeDiff, Int.reduceAdd, Int.reduceSub, Int.reduceMul, Int.reduceNeg, Int.reduceToNat, Int.reduceLE, Int.reduceLT, Int.reduceEq, Int.reduceNe, and_self]
  have h0 := hl 0 (by decide)
  have r0 : pvR 0 := by unfold pvR; omega
  have r2 : pvR 2 := by unfold pvR; omega
  have r4 : pvR 4 := by unfold pvR; omega
  have fa : ∀ {z z' : pvM}, frF [5, 6, 7, 8, 9, 10, 11, 12] [34, 35] z z' → frL lim z z' := fun {z z'} h => frL_f h fun x hx => by
    simp at hx
    omega
  have hb := wd_10 (autC (z.1 (rwC 0))) (show lo.toNat + 1 ≤ 5 by omega) (show 2 ≤ 10 by decide) (3440 + (autC (z.1 (rwC 0))).2.1)
  have hm' : mn = wdF (autC (z.1 (rwC 0))) (lo.toNat + 1) 2 (3440 + (autC (z.1 (rwC 0))).2.1) := hm
  refine ⟨r0, r2, by omega, h0, hls.1, fun h => h hlo, fun _ z1 f1 p1 => ?_⟩
  have nx := okL_law567 hG hc hl (lsP_aw hls f1 p1) hlo (auP_m hl hA (fa f1)) (auP_m hl hB (fa f1)) hR
  rw [← hm'] at hb ⊢
  refine ⟨⟨by unfold pvRL; omega, by unfold pvRL; omega⟩, fun h => absurd (by rw [if_neg (by omega), if_pos rfl]) h, fun _ => nx⟩
