/-! the law's own body: the count of the words of two events -/
set_option maxRecDepth 100000 in
set_option maxHeartbeats 8000000 in
theorem okL_law460 {lim : Nat → Prop} {sc : Nat × (Nat → Int)} {Gm : Nat} {Rt : Option pvV → pvM → Nat → Prop} {SW : pvJ} (hG : 40 ≤ Gm) (hc : pvCloG lim sc fL (aL_law lim sc) kL Gm Rt bL_law uL_law SW) {ini fin ini2 fin2 lo : Int} {t u dl lt : Nat}
    (hl : ∀ id, id < 39 → lim id) (hdl : lim dl ∧ dl ≠ 60 ∧ 64 ≤ dl ∧ pvAI dl = 6) (hlt : lim lt ∧ lt ≠ 60 ∧ 64 ≤ lt ∧ pvAI lt = 6) (hne : dl ≠ lt ∧ t ≠ dl ∧ t ≠ lt ∧ u ≠ dl ∧ u ≠ lt) (hlo : 0 ≤ lo ∧ lo ≤ 4) (hR : ∀ (z' : pvM) (g : Nat), g ≤ 30 → Rt (some (vI 1)) z' g) (n : Nat) :
    ∀ (k : Nat) (z : pvM), k + n = 225 → lsP z → auP lim z 0 t ini fin → auP lim z 1 u ini2 fin2 →
    SW 460 [none, some (vR 0), some (vI ini), some (vI fin), some (vI ini2), some (vI fin2), some (vR t), some (vR u), none, some (vR dl), some (vR lt), some (vI lo), some (vL (suS (cwB (autC (z.1 2)) (lo.toNat + 1)) k)), none, some (vI (k : Int))] [] z 0 := by
  induction n with
  | zero =>
    intro k z hk hls hA hB
    have hwA : WfA (autC (z.1 2)) := hA.1.2.1
    refine id hc 40 _ _ _ _ _ fun _ _ _ => ?_
    simp only [pvStG]
    simp only [pvE_dup_i, pvE_dup_r, pvE_astore_n1, pvS1, List.length_cons, List.length_nil, pvClr_i, pvClr_r, pvClr_l, pvClr_d, pvClr_f, pvClr_n, pvE_iconst, pvE_aload_n0, pvLA_s, pvLd, pvE_bipush, pvE_invokestatic (Ex := fun _ => none) (h0 := rfl), pvC1_s, pvC2_s, pvAf_v, pvAf_x, pvPop, pvCs, pvCat, pvPush, aL_law_64, pvE_iadd, pvE_istore_n2, pvE_istore_n3, pvE_istore, pvE_aload_n1, pvE_iload_n2, pvLI_s, pvE_iload_n3, aL_law_176, pvE_iload, pvE_astore, pvE_aload, pvE_ifnull, pvE_ifnonnull, pvE_ireturn, pvE_icmp_ge, pvE_iastore, pvE_iaload, pvE_invokevirtual, aL_law_184, pvSh_0, pvSh_1, pvSh_2, pvSh_3, pvSh_4, pvSh_5, pvSh_6, pvSh_7, pvSh_8, pvSh_9, pvSh_10, pvSh_11, pvSh_12, pvSh_13, pvSh_14, pvSh_15, pvSh_16, pvSh_17, pvSh_18, pvSh_19, pvSh_20, pvSh_21, pvSh_22, pvSh_23, pvSh_24, pvSh_25, pvSh_26, pvSh_27, pvSh_28, pvSh_29, pvSh_30, pvSh_31, pvSh_32, pvSh_33, pvSh_34, pvSh_35, pvSh_36, pvSh_37, pvSh_38, pvE_icmp_eq, pvE_iinc, pvIc_s, pvE_goto, aL_law_187, aL_law_90, pvE_imul, pvE_icmp_gt, aL_law_190, aL_law_119, pvE_icmp_ne, aL_law_152, pvE_iand, pvE_if_eq, aL_law_193, aL_law_158, pvE_lconst0, pvE_lstore, pvS2, pvE_sipush, pvE_idiv, pvE_irem, pvE_lload, pvLL_s, pvE_lconst1, pvE_ladd, aL_law_148, pvE_lcmp, pvE_if_ne, aL_law_196, pvE_l2d, pvE_ldc2_w_d (h0 := kL_200), pvE_ddiv, pvE_dcmp, aL_law_202, aL_law_206, bL_law_0, uL_law_0, bL_law_8, uL_law_8, bL_law_76, uL_law_76, bL_law_81, uL_law_81, bL_law_93, uL_law_93, bL_law_108, uL_law_108, bL_law_110, uL_law_110, bL_law_120, uL_law_120, bL_law_132, uL_law_132, bL_law_135, uL_law_135, bL_law_195, uL_law_195, bL_law_201, uL_law_201, bL_law_204, uL_law_204, bL_law_260, uL_law_260, bL_law_266, uL_law_266, bL_law_269, uL_law_269, bL_law_321, uL_law_321, bL_law_323, uL_law_323, bL_law_329, uL_law_329, bL_law_355, uL_law_355, bL_law_356, uL_law_356, bL_law_359, uL_law_359, bL_law_387, uL_law_387, bL_law_388, uL_law_388, bL_law_391, uL_law_391, bL_law_393, uL_law_393, bL_law_413, uL_law_413, bL_law_433, uL_law_433, bL_law_443, uL_law_443, bL_law_445, uL_law_445, bL_law_460, uL_law_460, bL_law_547, uL_law_547, bL_law_553, uL_law_553, bL_law_567, uL_law_567, bL_law_585, uL_law_585, bL_law_586, uL_law_586, bL_law_590, uL_law_590, bL_law_612, uL_law_612, bL_law_614, uL_law_614, bL_law_630, uL_law_630, bL_law_632, uL_law_632, bL_law_693, uL_law_693, bL_law_694, uL_law_694, pvMk_t, pvMk_f, pvMk_n, pvRtG, pvRecv_r, pvUp_nl, pvUp_same, pvUp_ap, pvSt_ap, pvX_c, pvX_ms, pvX_mn, pvE_nil, pvEn_i, pvEn_r, pvEn_l, pvEn_0, pvEn_s, pvRt, pvRv, pvTh, pvKc, pvGo, pvTgt, Int.toNat_natCast, false_and, and_false, true_and, and_true, if_true, if_false, reduceIte, reduceCtorEq, forall_const, false_or, or_false, true_or, or_true, ne_eq, not_true_eq_false, not_false_eq_true, implies_true, false_implies, Nat.reduceAdd, Nat.reduceSub, Nat.reduceMul, Nat.reduceEqDiff, Nat.reduceLT, Nat.reduceLeDiff, Int.reduceAdd, Int.reduceSub, Int.reduceMul, Int.reduceNeg, Int.reduceToNat, Int.reduceLE, Int.reduceLT, Int.reduceEq, Int.reduceNe, and_self]
    have e := wd_two hwA (show lo.toNat + 1 ≤ 5 by omega)
    have ek : k = 225 := by omega
    subst ek
    exact ⟨fun _ => okL_law553 hG hc hl hls hlo hA hB e.symm hR, fun h => absurd (show (225 : Int) ≤ ((225 : Nat) : Int) by decide) h⟩
  | succ n ih =>
    intro k z hk hls hA hB
    have hd60 : (dl = 60) = False := eq_false hdl.2.1
    have hl60 : (lt = 60) = False := eq_false hlt.2.1
    have hdn : (dl = lt) = False := eq_false hne.1
    have hnd : (lt = dl) = False := eq_false fun h => hne.1 h.symm
    refine id hc 40 _ _ _ _ _ fun _ _ _ => ?_
    simp only [pvStG]
    simp only [C_L_after, hd60, hl60, hdn, hnd, hdl.2.2.2, hlt.2.2.2, pvE_dup_i, pvE_dup_r, pvE_astore_n1, pvS1, List.length_cons, List.length_nil, pvClr_i, pvClr_r, pvClr_l, pvClr_d, pvClr_f, pvClr_n, pvE_iconst, pvE_aload_n0, pvLA_s, pvLd, pvE_bipush, pvE_invokestatic (Ex := fun _ => none) (h0 := rfl), pvC1_s, pvC2_s, pvAf_v, pvAf_x, pvPop, pvCs, pvCat, pvPush, aL_law_64, pvE_iadd, pvE_istore_n2, pvE_istore_n3, pvE_istore, pvE_aload_n1, pvE_iload_n2, pvLI_s, pvE_iload_n3, aL_law_176, pvE_iload, pvE_astore, pvE_aload, pvE_ifnull, pvE_ifnonnull, pvE_ireturn, pvE_icmp_ge, pvE_iastore, pvE_iaload, pvE_invokevirtual, aL_law_184, pvSh_0, pvSh_1, pvSh_2, pvSh_3, pvSh_4, pvSh_5, pvSh_6, pvSh_7, pvSh_8, pvSh_9, pvSh_10, pvSh_11, pvSh_12, pvSh_13, pvSh_14, pvSh_15, pvSh_16, pvSh_17, pvSh_18, pvSh_19, pvSh_20, pvSh_21, pvSh_22, pvSh_23, pvSh_24, pvSh_25, pvSh_26, pvSh_27, pvSh_28, pvSh_29, pvSh_30, pvSh_31, pvSh_32, pvSh_33, pvSh_34, pvSh_35, pvSh_36, pvSh_37, pvSh_38, pvE_icmp_eq, pvE_iinc, pvIc_s, pvE_goto, aL_law_187, aL_law_90, pvE_imul, pvE_icmp_gt, aL_law_190, aL_law_119, pvE_icmp_ne, aL_law_152, pvE_iand, pvE_if_eq, aL_law_193, aL_law_158, pvE_lconst0, pvE_lstore, pvS2, pvE_sipush, pvE_idiv, pvE_irem, pvE_lload, pvLL_s, pvE_lconst1, pvE_ladd, aL_law_148, pvE_lcmp, pvE_if_ne, aL_law_196, pvE_l2d, pvE_ldc2_w_d (h0 := kL_200), pvE_ddiv, pvE_dcmp, aL_law_202, aL_law_206, bL_law_0, uL_law_0, bL_law_8, uL_law_8, bL_law_76, uL_law_76, bL_law_81, uL_law_81, bL_law_93, uL_law_93, bL_law_108, uL_law_108, bL_law_110, uL_law_110, bL_law_120, uL_law_120, bL_law_132, uL_law_132, bL_law_135, uL_law_135, bL_law_195, uL_law_195, bL_law_201, uL_law_201, bL_law_204, uL_law_204, bL_law_260, uL_law_260, bL_law_266, uL_law_266, bL_law_269, uL_law_269, bL_law_321, uL_law_321, bL_law_323, uL_law_323, bL_law_329, uL_law_329, bL_law_355, uL_law_355, bL_law_356, uL_law_356, bL_law_359, uL_law_359, bL_law_387, uL_law_387, bL_law_388, uL_law_388, bL_law_391, uL_law_391, bL_law_393, uL_law_393, bL_law_413, uL_law_413, bL_law_433, uL_law_433, bL_law_443, uL_law_443, bL_law_445, uL_law_445, bL_law_460, uL_law_460, bL_law_547, uL_law_547, bL_law_553, uL_law_553, bL_law_567, uL_law_567, bL_law_585, uL_law_585, bL_law_586, uL_law_586, bL_law_590, uL_law_590, bL_law_612, uL_law_612, bL_law_614, uL_law_614, bL_law_630, uL_law_630, bL_law_632, uL_law_632, bL_law_693, uL_law_693, bL_law_694, uL_law_694, pvMk_t, pvMk_f, pvMk_n, pvRtG, pvRecv_r, pvUp_nl, pvUp_same, pvUp_ap, pvSt_ap, pvX_c, pvX_ms, pvX_mn, pvE_nil, pvEn_i, pvEn_r, pvEn_l, pvEn_0, pvEn_s, pvRt, pvRv, pvTh, pvKc, pvGo, pvTgt, Int.toNat_natCast, false_and, and_false, true_and, and_true, if_true, if_false, reduceIte, reduceCtorEq, forall_const, false_or, or_false, true_or, or_true, ne_eq, not_true_eq_false, not_false_eq_true, implies_true, false_implies, Nat.reduceAdd, Nat.reduceSub, Nat.reduceMul, Nat.reduceEqDiff, Nat.reduceLT, Nat.reduceLeDiff, Int.reduceAdd, Int.reduceSub, Int.reduceMul, Int.reduceNeg, Int.reduceToNat, Int.reduceLE, Int.reduceLT, Int.reduceEq, Int.reduceNe, and_self]
    have hwA : WfA (autC (z.1 2)) := hA.1.2.1
    have p1 : ∀ x : Int, 0 ≤ x ∧ x ≤ 300 → pvR x := fun x hx => by unfold pvR; omega
    have hk2 : k < 225 := by omega
    have key : ∀ z4 : pvM, (∀ id, id ≠ dl → id ≠ lt → z4.1 id = z.1 id) → ∀ mn : Int, mn = suS (cwB (autC (z.1 2)) (lo.toNat + 1)) (k + 1) → SW 460 [none, some (vR 0), some (vI ini), some (vI fin), some (vI ini2), some (vI fin2), some (vR t), some (vR u), none, some (vR dl), some (vR lt), some (vI lo), some (vL mn), none, some (vI ((k : Int) + 1))] [] z4 0 := by
      intro z4 hz mn hm
      have hls4 : lsP z4 := lsP_c hls fun id hi => hz id (by omega) (by omega)
      have er : ∀ s, z4.1 (rwC s) = z.1 (rwC s) := fun s => hz _ (by have := rw_l (s := s); omega) (by have := rw_l (s := s); omega)
      have hA4 : auP lim z4 0 t ini fin := by
        unfold auP at *
        rw [er]
        exact ⟨trP_m hA.1 (hz t hne.2.1 hne.2.2.1), hA.2⟩
      have hB4 : auP lim z4 1 u ini2 fin2 := by
        unfold auP at *
        rw [er]
        exact ⟨trP_m hB.1 (hz u hne.2.2.2.1 hne.2.2.2.2), hB.2⟩
      have := ih (k + 1) z4 (by omega) hls4 hA4 hB4
      rw [show z4.1 2 = z.1 2 from er 0, ← hm, show (((k + 1 : Nat)) : Int) = (k : Int) + 1 by omega] at this
      exact this
    have r0 := p1 0 (by omega)
    have r1 := p1 1 (by omega)
    have r2 := p1 2 (by omega)
    have r5 := p1 5 (by omega)
    have hs : suS (cwB (autC (z.1 2)) (lo.toNat + 1)) (k + 1) = suS (cwB (autC (z.1 2)) (lo.toNat + 1)) k + cwB (autC (z.1 2)) (lo.toNat + 1) k := rfl
    have hup : ∀ (a b c d : Int) (id : Nat), id ≠ dl → id ≠ lt → pvUp (pvUp (pvUp (pvUp z.1 lt 0 a) dl 0 b) lt 1 c) dl 1 d id = z.1 id := fun a b c d id h1 h2 => by
      funext j
      simp [pvUp, h1, h2]
    have hD0 : ∀ (a b c d : Int), pvUp (pvUp (pvUp (pvUp z.1 lt 0 a) dl 0 b) lt 1 c) dl 1 d dl 0 = b ∧ pvUp (pvUp (pvUp (pvUp z.1 lt 0 a) dl 0 b) lt 1 c) dl 1 d dl 1 = d := fun a b c d => by
      simp [pvUp, hne.1]
    have hL0 : ∀ (a b c d : Int), pvUp (pvUp (pvUp (pvUp z.1 lt 0 a) dl 0 b) lt 1 c) dl 1 d lt 0 = a ∧ pvUp (pvUp (pvUp (pvUp z.1 lt 0 a) dl 0 b) lt 1 c) dl 1 d lt 1 = c := fun a b c d => by
      simp [pvUp, hne.1, hne.1.symm]
    have hc0 : cwD k 0 = (k : Int) / 15 % 5 ∧ cwD k 1 = (k : Int) % 5 ∧ cwL k 0 = (k : Int) / 75 ∧ cwL k 1 = (k : Int) % 15 / 5 := by
      unfold cwD cwL
      simp
    have hkk : ∀ d l : Nat → Int, d 0 = (k : Int) / 15 % 5 → d 1 = (k : Int) % 5 → l 0 = (k : Int) / 75 → l 1 = (k : Int) % 15 / 5 → afK (autC (z.1 2)) d l 2 = afK (autC (z.1 2)) (cwD k) (cwL k) 2 := fun d l h1 h2 h3 h4 => af_e 2 fun j hj => by
      rcases (show j = 0 ∨ j = 1 by omega) with rfl | rfl
      · exact ⟨h1.trans hc0.1.symm, h3.trans hc0.2.2.1.symm⟩
      · exact ⟨h2.trans hc0.2.1.symm, h4.trans hc0.2.2.2.symm⟩
    refine ⟨fun h => absurd h (by omega), fun _ => ⟨r0, by omega, ⟨hlt.1, by omega⟩, r0, by omega, r5, by omega, ⟨hdl.1, by omega⟩, r1, by omega, p1 5 (by omega), by omega, ⟨hlt.1, by omega⟩, r1, p1 5 (by omega), by omega, ⟨hdl.1, by omega⟩, r0, ⟨hdl.1, by omega⟩, fun h => ⟨p1 _ (by omega), key _ (hup _ _ _ _) _ ?_⟩, fun h => ⟨r1, ⟨hdl.1, by omega⟩, fun h' => ⟨p1 _ (by omega), key _ (hup _ _ _ _) _ ?_⟩, fun h' => ⟨r2, by omega, autC (z.1 2), ⟨?_, hA.2.1, 2, ?_, by omega⟩, fun h2 => ⟨p1 _ (by omega), key _ (hup _ _ _ _) _ ?_⟩, fun h2 => ⟨p1 _ (by omega), key _ (hup _ _ _ _) _ ?_⟩⟩⟩⟩⟩
    · rw [hs, show cwB (autC (z.1 2)) (lo.toNat + 1) k = 0 from if_neg (by omega), Int.add_zero]
    · rw [hs, show cwB (autC (z.1 2)) (lo.toNat + 1) k = 0 from if_neg (by omega), Int.add_zero]
    · exact trP_m hA.1 (hup _ _ _ _ t hne.2.1 hne.2.2.1)
    · refine ⟨⟨hdl.1, hdl.2.1, hlt.1, hlt.2.1, by omega, by omega⟩, by decide, fun j hj => ?_⟩
      have hj' : j = 0 ∨ j = 1 := by omega
      obtain ⟨d1, d2⟩ := hD0 ((k : Int) / 75) ((k : Int) / 15 % 5) ((k : Int) % 15 / 5) ((k : Int) % 5)
      obtain ⟨l1, l2⟩ := hL0 ((k : Int) / 75) ((k : Int) / 15 % 5) ((k : Int) % 15 / 5) ((k : Int) % 5)
      rcases hj' with rfl | rfl
      · dsimp only
        rw [d1, l1]
        omega
      · dsimp only
        rw [d2, l2]
        omega
    · rw [hkk _ _ (by simp [pvUp, hne.1, hne.1.symm]) (by simp [pvUp, hne.1, hne.1.symm]) (by simp [pvUp, hne.1, hne.1.symm]) (by simp [pvUp, hne.1, hne.1.symm]), hA.2.2] at h2
      rw [hs, show cwB (autC (z.1 2)) (lo.toNat + 1) k = 0 from if_neg (fun h3 => h3.2.2 h2), Int.add_zero]
    · rw [hkk _ _ (by simp [pvUp, hne.1, hne.1.symm]) (by simp [pvUp, hne.1, hne.1.symm]) (by simp [pvUp, hne.1, hne.1.symm]) (by simp [pvUp, hne.1, hne.1.symm]), hA.2.2] at h2
      rw [hs, show cwB (autC (z.1 2)) (lo.toNat + 1) k = 1 from if_pos ⟨by omega, by omega, h2⟩]
