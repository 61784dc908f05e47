/-! the law's own body: the word drawn and appended -/
set_option maxRecDepth 100000 in
set_option maxHeartbeats 4000000 in
theorem okL_law135 {lim : Nat → Prop} {sc : Nat × (Nat → Int)} {Gm : Nat} {Rt : Option pvV → pvM → Nat → Prop} {SW : pvJ} (hG : 40 ≤ Gm) (hc : pvCloG lim sc fL (aL_law lim sc) kL Gm Rt bL_law uL_law SW) {ini fin ini2 fin2 : Int} {t u dl lt : Nat}
    (hl : ∀ id, id < 39 → lim id) (h60 : lim 60) (hdl : lim dl ∧ dl ≠ 60 ∧ 64 ≤ dl ∧ pvAI dl = 6) (hlt : lim lt ∧ lt ≠ 60 ∧ 64 ≤ lt ∧ pvAI lt = 6) (hne : dl ≠ lt ∧ t ≠ dl ∧ t ≠ lt ∧ u ≠ dl ∧ u ≠ lt) (hR : ∀ (z' : pvM) (g : Nat), g ≤ 30 → Rt (some (vI 1)) z' g) {n : Nat} (hn : n ≤ 5) (m : Nat) :
    ∀ (k : Nat) (z : pvM), k + m = n → z.1 20 4 = k → lsP z → auP lim z 0 t ini fin → auP lim z 1 u ini2 fin2 → (∀ j, j < k → z.1 dl j = z.1 21 j ∧ z.1 lt j = z.1 22 j) → SW 135 [some (vR 60), some (vR 0), some (vI ini), some (vI fin), some (vI ini2), some (vI fin2), some (vR t), some (vR u), some (vI (n : Int)), some (vR dl), some (vR lt), some (vI (k : Int)), none, none, none] [] z 0 := by
  have h0 := hl 0 (by decide)
  have r0 : pvR 0 := by unfold pvR; omega
  have r1 : pvR 1 := by unfold pvR; omega
  have rk : ∀ x : Int, 0 ≤ x ∧ x ≤ 300 → pvR x := fun x hx => by unfold pvR; omega
  have hd60 : (dl = 60) = False := eq_false hdl.2.1
  have hl60 : (lt = 60) = False := eq_false hlt.2.1
  have hdn : (dl = lt) = False := eq_false hne.1
  have hnd : (lt = dl) = False := eq_false fun h => hne.1 h.symm
  have h2l : (20 = lt) = False := eq_false (by omega)
  have h2d : (20 = dl) = False := eq_false (by omega)
  induction m with
  | zero =>
    intro k z hk h20 hls hA hB hag
    have ek : k = n := by omega
    subst ek
    have nx := okL_law204 hG hc hl h60 hdl hlt hne hR hls hA hB h20 hn hag k 0 (by omega)
    refine id hc 40 _ _ _ _ _ fun _ _ _ => ?_
    simp only [pvStG]
    simp only [pvE_dup_i, pvE_dup_r, pvE_astore_n1, pvS1, List.length_cons, List.length_nil, pvClr_i, pvClr_r, pvClr_l, pvClr_d, pvClr_f, pvClr_n, pvE_iconst, pvE_aload_n0, pvLA_s, pvLd, pvE_bipush, pvE_invokestatic (Ex := fun _ => none) (h0 := rfl), pvC1_s, pvC2_s, pvAf_v, pvAf_x, pvPop, pvCs, pvCat, pvPush, aL_law_64, pvE_iadd, pvE_istore_n2, pvE_istore_n3, pvE_istore, pvE_aload_n1, pvE_iload_n2, pvLI_s, pvE_iload_n3, aL_law_176, pvE_iload, pvE_astore, pvE_aload, pvE_ifnull, pvE_ifnonnull, pvE_ireturn, pvE_icmp_ge, pvE_iastore, pvE_iaload, pvE_invokevirtual, aL_law_184, pvSh_0, pvSh_1, pvSh_2, pvSh_3, pvSh_4, pvSh_5, pvSh_6, pvSh_7, pvSh_8, pvSh_9, pvSh_10, pvSh_11, pvSh_12, pvSh_13, pvSh_14, pvSh_15, pvSh_16, pvSh_17, pvSh_18, pvSh_19, pvSh_20, pvSh_21, pvSh_22, pvSh_23, pvSh_24, pvSh_25, pvSh_26, pvSh_27, pvSh_28, pvSh_29, pvSh_30, pvSh_31, pvSh_32, pvSh_33, pvSh_34, pvSh_35, pvSh_36, pvSh_37, pvSh_38, pvE_icmp_eq, pvE_iinc, pvIc_s, pvE_goto, aL_law_187, aL_law_90, pvE_imul, pvE_icmp_gt, aL_law_190, aL_law_119, pvE_icmp_ne, aL_law_152, pvE_iand, pvE_if_eq, aL_law_193, aL_law_158, pvE_lconst0, pvE_lstore, pvS2, pvE_sipush, pvE_idiv, pvE_irem, pvE_lload, pvLL_s, pvE_lconst1, pvE_ladd, aL_law_148, pvE_lcmp, pvE_if_ne, aL_law_196, pvE_l2d, pvE_ldc2_w_d (h0 := kL_200), pvE_ddiv, pvE_dcmp, aL_law_202, aL_law_206, bL_law_0, uL_law_0, bL_law_8, uL_law_8, bL_law_76, uL_law_76, bL_law_81, uL_law_81, bL_law_93, uL_law_93, bL_law_108, uL_law_108, bL_law_110, uL_law_110, bL_law_120, uL_law_120, bL_law_132, uL_law_132, bL_law_135, uL_law_135, bL_law_195, uL_law_195, bL_law_201, uL_law_201, bL_law_204, uL_law_204, bL_law_260, uL_law_260, bL_law_266, uL_law_266, bL_law_269, uL_law_269, bL_law_321, uL_law_321, bL_law_323, uL_law_323, bL_law_329, uL_law_329, bL_law_355, uL_law_355, bL_law_356, uL_law_356, bL_law_359, uL_law_359, bL_law_387, uL_law_387, bL_law_388, uL_law_388, bL_law_391, uL_law_391, bL_law_393, uL_law_393, bL_law_413, uL_law_413, bL_law_433, uL_law_433, bL_law_443, uL_law_443, bL_law_445, uL_law_445, bL_law_460, uL_law_460, bL_law_547, uL_law_547, bL_law_553, uL_law_553, bL_law_567, uL_law_567, bL_law_585, uL_law_585, bL_law_586, uL_law_586, bL_law_590, uL_law_590, bL_law_612, uL_law_612, bL_law_614, uL_law_614, bL_law_630, uL_law_630, bL_law_632, uL_law_632, bL_law_693, uL_law_693, bL_law_694, uL_law_694, pvMk_t, pvMk_f, pvMk_n, pvRtG, pvRecv_r, pvUp_nl, pvUp_same, pvUp_ap, pvSt_ap, pvX_c, pvX_ms, pvX_mn, pvE_nil, pvEn_i, pvEn_r, pvEn_l, pvEn_0, pvEn_s, pvRt, pvRv, pvTh, pvKc, pvGo, pvTgt, Int.toNat_natCast, false_and, and_false, true_and, and_true, if_true, if_false, reduceIte, reduceCtorEq, forall_const, false_or, or_false, true_or, or_true, ne_eq, not_true_eq_false, not_false_eq_true, implies_true, false_implies, Nat.reduceAdd, Nat.reduceSub, Nat.reduceMul, Nat.reduceEqDiff, Nat.reduceLT, Nat.reduceLeDiff, Int.reduceAdd, Int.reduceSub, Int.reduceMul, Int.reduceNeg, Int.reduceToNat, Int.reduceLE, Int.reduceLT, Int.reduceEq, Int.reduceNe, and_self]
    exact ⟨fun _ => ⟨r0, nx⟩, fun h => absurd (by omega) h⟩
  | succ m ih =>
    intro k z hk h20 hls hA hB hag
    refine id hc 40 _ _ _ _ _ fun _ _ _ => ?_
    simp only [pvStG]
    simp only [C_L_draw, C_X9_appendEvent, hd60, hl60, hdn, hnd, h2l, h2d, h20, false_and, if_false, Int.toNat_natCast, pvE_dup_i, pvE_dup_r, pvE_astore_n1, pvS1, List.length_cons, List.length_nil, pvClr_i, pvClr_r, pvClr_l, pvClr_d, pvClr_f, pvClr_n, pvE_iconst, pvE_aload_n0, pvLA_s, pvLd, pvE_bipush, pvE_invokestatic (Ex := fun _ => none) (h0 := rfl), pvC1_s, pvC2_s, pvAf_v, pvAf_x, pvPop, pvCs, pvCat, pvPush, aL_law_64, pvE_iadd, pvE_istore_n2, pvE_istore_n3, pvE_istore, pvE_aload_n1, pvE_iload_n2, pvLI_s, pvE_iload_n3, aL_law_176, pvE_iload, pvE_astore, pvE_aload, pvE_ifnull, pvE_ifnonnull, pvE_ireturn, pvE_icmp_ge, pvE_iastore, pvE_iaload, pvE_invokevirtual, aL_law_184, pvSh_0, pvSh_1, pvSh_2, pvSh_3, pvSh_4, pvSh_5, pvSh_6, pvSh_7, pvSh_8, pvSh_9, pvSh_10, pvSh_11, pvSh_12, pvSh_13, pvSh_14, pvSh_15, pvSh_16, pvSh_17, pvSh_18, pvSh_19, pvSh_20, pvSh_21, pvSh_22, pvSh_23, pvSh_24, pvSh_25, pvSh_26, pvSh_27, pvSh_28, pvSh_29, pvSh_30, pvSh_31, pvSh_32, pvSh_33, pvSh_34, pvSh_35, pvSh_36, pvSh_37, pvSh_38, pvE_icmp_eq, pvE_iinc, pvIc_s, pvE_goto, aL_law_187, aL_law_90, pvE_imul, pvE_icmp_gt, aL_law_190, aL_law_119, pvE_icmp_ne, aL_law_152, pvE_iand, pvE_if_eq, aL_law_193, aL_law_158, pvE_lconst0, pvE_lstore, pvS2, pvE_sipush, pvE_idiv, pvE_irem, pvE_lload, pvLL_s, pvE_lconst1, pvE_ladd, aL_law_148, pvE_lcmp, pvE_if_ne, aL_law_196, pvE_l2d, pvE_ldc2_w_d (h0 := kL_200), pvE_ddiv, pvE_dcmp, aL_law_202, aL_law_206, bL_law_0, uL_law_0, bL_law_8, uL_law_8, bL_law_76, uL_law_76, bL_law_81, uL_law_81, bL_law_93, uL_law_93, bL_law_108, uL_law_108, bL_law_110, uL_law_110, bL_law_120, uL_law_120, bL_law_132, uL_law_132, bL_law_135, uL_law_135, bL_law_195, uL_law_195, bL_law_201, uL_law_201, bL_law_204, uL_law_204, bL_law_260, uL_law_260, bL_law_266, uL_law_266, bL_law_269, uL_law_269, bL_law_321, uL_law_321, bL_law_323, uL_law_323, bL_law_329, uL_law_329, bL_law_355, uL_law_355, bL_law_356, uL_law_356, bL_law_359, uL_law_359, bL_law_387, uL_law_387, bL_law_388, uL_law_388, bL_law_391, uL_law_391, bL_law_393, uL_law_393, bL_law_413, uL_law_413, bL_law_433, uL_law_433, bL_law_443, uL_law_443, bL_law_445, uL_law_445, bL_law_460, uL_law_460, bL_law_547, uL_law_547, bL_law_553, uL_law_553, bL_law_567, uL_law_567, bL_law_585, uL_law_585, bL_law_586, uL_law_586, bL_law_590, uL_law_590, bL_law_612, uL_law_612, bL_law_614, uL_law_614, bL_law_630, uL_law_630, bL_law_632, uL_law_632, bL_law_693, uL_law_693, bL_law_694, uL_law_694, pvMk_t, pvMk_f, pvMk_n, pvRtG, pvRecv_r, pvUp_nl, pvUp_same, pvUp_ap, pvSt_ap, pvX_c, pvX_ms, pvX_mn, pvE_nil, pvEn_i, pvEn_r, pvEn_l, pvEn_0, pvEn_s, pvRt, pvRv, pvTh, pvKc, pvGo, pvTgt, Int.toNat_natCast, false_and, and_false, true_and, and_true, if_true, if_false, reduceIte, reduceCtorEq, forall_const, false_or, or_false, true_or, or_true, ne_eq, not_true_eq_false, not_false_eq_true, implies_true, false_implies, Nat.reduceAdd, Nat.reduceSub, Nat.reduceMul, Nat.reduceEqDiff, Nat.reduceLT, Nat.reduceLeDiff, Int.reduceAdd, Int.reduceSub, Int.reduceMul, Int.reduceNeg, Int.reduceToNat, Int.reduceLE, Int.reduceLT, Int.reduceEq, Int.reduceNe, and_self]
    have wr := wv_r hls.2.2.2
    have hk5 : k < 5 := by omega
    have gd : 0 ≤ dwS sc (7 + k) % 5 ∧ dwS sc (7 + k) % 5 ≤ 4 := by omega
    have gl : 0 ≤ dwS sc (13 + k) % 3 ∧ dwS sc (13 + k) % 3 ≤ 2 := by omega
    have key : ∀ (z5 : pvM) (D Lt : Int), 0 ≤ D ∧ D ≤ 4 → 0 ≤ Lt ∧ Lt ≤ 2 → (∀ id, id ≠ dl → id ≠ lt → id ≠ 20 → id ≠ 21 → id ≠ 22 → id ≠ 23 → z5.1 id = z.1 id) → z5.1 20 4 = k + 1 → z5.1 20 3 = rsF (psF (z.1 20 3) D) Lt →
        (∀ j, z5.1 21 j = if j = k then D else z.1 21 j) → (∀ j, z5.1 22 j = if j = k then Lt else z.1 22 j) → (∀ j, z5.1 23 j = if j = k then psF (z.1 20 3) D else z.1 23 j) → (∀ j, z5.1 dl j = if j = k then D else z.1 dl j) → (∀ j, z5.1 lt j = if j = k then Lt else z.1 lt j) →
        SW 135 [some (vR 60), some (vR 0), some (vI ini), some (vI fin), some (vI ini2), some (vI fin2), some (vR t), some (vR u), some (vI (n : Int)), some (vR dl), some (vR lt), some (vI ((k : Int) + 1)), none, none, none] [] z5 0 := by
      intro z5 D Lt hD hLt hz e4 e3 f1 f2 f3 f4 f5
      have ek : (z.1 20 4).toNat = k := by rw [h20]; omega
      have wv : WvF z5.1 := wv_ap hls.2.2.2 (by rw [h20]; omega) hD hLt (by rw [e4, h20]) e3 (by rw [ek]; exact f1) (by rw [ek]; exact f2) (by rw [ek]; exact f3)
      have er : ∀ s, z5.1 (rwC s) = z.1 (rwC s) := fun s => hz _ (by have := rw_l (s := s); omega) (by have := rw_l (s := s); omega) (by have := rw_l (s := s); omega) (by have := rw_l (s := s); omega) (by have := rw_l (s := s); omega) (by have := rw_l (s := s); omega)
      have el : ∀ id, id < 39 → id < 20 ∨ 24 ≤ id → z5.1 id = z.1 id := fun id h1 h2 => hz id (by omega) (by omega) (by omega) (by omega) (by omega) (by omega)
      have hls5 : lsP z5 := by
        obtain ⟨h1, h2, ⟨Qs, h3⟩, h4⟩ := hls
        refine ⟨fun s hs => ?_, ?_, ⟨Qs, ?_⟩, wv⟩
        · obtain ⟨a, b, c⟩ := h1 s hs
          have hp := pw_o s
          have e0 := el (pwF s) (by omega) (by omega)
          rw [er, e0]
          exact ⟨a, b, fun h => psP_m (c h) e0 (el _ (by omega) (by omega)) (el _ (by omega) (by omega)) (el _ (by omega) (by omega))⟩
        · obtain ⟨a1, a2, a3, a4, a5⟩ := h2
          exact ⟨a1, by show mvP (z5.1 14) emA; rw [el 14 (by decide) (by decide)]; exact a2, by rw [el 13 (by decide) (by decide)]; exact a3, by rw [el 13 (by decide) (by decide)]; exact a4, a5⟩
        · unfold quF at *
          rw [el 28 (by decide) (by decide), el 29 (by decide) (by decide), el 30 (by decide) (by decide)]
          exact h3
      have ht := hA.1.1.2.2.1
      have hu := hB.1.1.2.2.1
      have hA5 : auP lim z5 0 t ini fin := by
        unfold auP at *
        rw [er]
        exact ⟨trP_m hA.1 (hz t hne.2.1 hne.2.2.1 (by omega) (by omega) (by omega) (by omega)), hA.2⟩
      have hB5 : auP lim z5 1 u ini2 fin2 := by
        unfold auP at *
        rw [er]
        exact ⟨trP_m hB.1 (hz u hne.2.2.2.1 hne.2.2.2.2 (by omega) (by omega) (by omega) (by omega)), hB.2⟩
      have nx := ih (k + 1) z5 (by omega) (by rw [e4]; omega) hls5 hA5 hB5 fun j hj => by
        rw [f1, f2, f4, f5]
        by_cases e : j = k
        · rw [if_pos e, if_pos e, if_pos e, if_pos e]
          exact ⟨rfl, rfl⟩
        · rw [if_neg e, if_neg e, if_neg e, if_neg e]
          exact hag j (by omega)
      rw [show ((k + 1 : Nat) : Int) = (k : Int) + 1 by omega] at nx
      exact nx
    refine ⟨fun h => absurd h (by omega), fun _ => ⟨rk _ (by omega), rk 5 (by omega), by omega, ⟨h60, by omega, by omega⟩, ⟨hdl.1, by omega, by omega⟩, rk _ (by omega), rk 3 (by omega), by omega, ⟨h60, by omega, by omega⟩, ⟨hlt.1, by omega, by omega⟩, ⟨hdl.1, by omega, by omega⟩, ⟨hlt.1, by omega, by omega⟩, by omega, h0, ⟨by omega, wr⟩, fun h => h ⟨gd, gl⟩, fun _ h => absurd h (by omega), fun _ _ => ⟨r1, rk _ (by omega), rk _ (by omega), ?_⟩⟩⟩
    have nd := hdl.2.2.1
    have nl := hlt.2.2.1
    refine key _ _ _ gd gl (fun id h1 h2 h3 h4 h5 h6 => ?_) ?_ ?_ (fun j => ?_) (fun j => ?_) (fun j => ?_) (fun j => ?_) (fun j => ?_)
    · funext j
      simp [pvUp, h1, h2, h3, h4, h5, h6]
    · simp [pvUp]
    · simp [pvUp]
    · simp [pvUp, show 21 ≠ dl by omega, show 21 ≠ lt by omega]
    · simp [pvUp, show 22 ≠ dl by omega, show 22 ≠ lt by omega]
    · simp [pvUp, show 23 ≠ dl by omega, show 23 ≠ lt by omega]
    · simp [pvUp, hne.1, show dl ≠ 20 by omega, show dl ≠ 21 by omega, show dl ≠ 22 by omega, show dl ≠ 23 by omega]
    · simp [pvUp, hne.1.symm, show lt ≠ 20 by omega, show lt ≠ 21 by omega, show lt ≠ 22 by omega, show lt ≠ 23 by omega]
set_option maxRecDepth 100000 in
set_option maxHeartbeats 4000000 in
theorem okL_law132 {lim : Nat → Prop} {sc : Nat × (Nat → Int)} {Gm : Nat} {Rt : Option pvV → pvM → Nat → Prop} {SW : pvJ} (hG : 40 ≤ Gm) (hc : pvCloG lim sc fL (aL_law lim sc) kL Gm Rt bL_law uL_law SW) {ini fin ini2 fin2 : Int} {t u dl lt : Nat}
    (hl : ∀ id, id < 39 → lim id) (h60 : lim 60) (hdl : lim dl ∧ dl ≠ 60 ∧ 64 ≤ dl ∧ pvAI dl = 6) (hlt : lim lt ∧ lt ≠ 60 ∧ 64 ≤ lt ∧ pvAI lt = 6) (hne : dl ≠ lt ∧ t ≠ dl ∧ t ≠ lt ∧ u ≠ dl ∧ u ≠ lt) (hR : ∀ (z' : pvM) (g : Nat), g ≤ 30 → Rt (some (vI 1)) z' g) {n : Int} (hn : 0 ≤ n ∧ n ≤ 5) {z : pvM} (h20 : z.1 20 4 = 0) (hls : lsP z) (hA : auP lim z 0 t ini fin) (hB : auP lim z 1 u ini2 fin2) :
    SW 132 [some (vR 60), some (vR 0), some (vI ini), some (vI fin), some (vI ini2), some (vI fin2), some (vR t), some (vR u), some (vI n), some (vR dl), some (vR lt), none, none, none, none] [] z 0 := by
  obtain ⟨k, rfl⟩ : ∃ k : Nat, n = k := ⟨n.toNat, by omega⟩
  have nx := okL_law135 hG hc hl h60 hdl hlt hne hR (n := k) (by omega) k 0 z (by omega) h20 hls hA hB (fun j hj => absurd hj (by omega))
  have r0 : pvR 0 := by unfold pvR; omega
  refine id hc 40 _ _ _ _ _ fun _ _ _ => ?_
  simp only [pvStG]
  simp only [pvE_dup_i, pvE_dup_r, pvE_astore_n1, pvS1, List.length_cons, List.length_nil, pvClr_i, pvClr_r, pvClr_l, pvClr_d, pvClr_f, pvClr_n, pvE_iconst, pvE_aload_n0, pvLA_s, pvLd, pvE_bipush, pvE_invokestatic (Ex := fun _ => none) (h0 := rfl), pvC1_s, pvC2_s, pvAf_v, pvAf_x, pvPop, pvCs, pvCat, pvPush, aL_law_64, pvE_iadd, pvE_istore_n2, pvE_istore_n3, pvE_istore, pvE_aload_n1, pvE_iload_n2, pvLI_s, pvE_iload_n3, aL_law_176, pvE_iload, pvE_astore, pvE_aload, pvE_ifnull, pvE_ifnonnull, pvE_ireturn, pvE_icmp_ge, pvE_iastore, pvE_iaload, pvE_invokevirtual, aL_law_184, pvSh_0, pvSh_1, pvSh_2, pvSh_3, pvSh_4, pvSh_5, pvSh_6, pvSh_7, pvSh_8, pvSh_9, pvSh_10, pvSh_11, pvSh_12, pvSh_13, pvSh_14, pvSh_15, pvSh_16, pvSh_17, pvSh_18, pvSh_19, pvSh_20, pvSh_21, pvSh_22, pvSh_23, pvSh_24, pvSh_25, pvSh_26, pvSh_27, pvSh_28, pvSh_29, pvSh_30, pvSh_31, pvSh_32, pvSh_33, pvSh_34, pvSh_35, pvSh_36, pvSh_37, pvSh_38, pvE_icmp_eq, pvE_iinc, pvIc_s, pvE_goto, aL_law_187, aL_law_90, pvE_imul, pvE_icmp_gt, aL_law_190, aL_law_119, pvE_icmp_ne, aL_law_152, pvE_iand, pvE_if_eq, aL_law_193, aL_law_158, pvE_lconst0, pvE_lstore, pvS2, pvE_sipush, pvE_idiv, pvE_irem, pvE_lload, pvLL_s, pvE_lconst1, pvE_ladd, aL_law_148, pvE_lcmp, pvE_if_ne, aL_law_196, pvE_l2d, pvE_ldc2_w_d (h0 := kL_200), pvE_ddiv, pvE_dcmp, aL_law_202, aL_law_206, bL_law_0, uL_law_0, bL_law_8, uL_law_8, bL_law_76, uL_law_76, bL_law_81, uL_law_81, bL_law_93, uL_law_93, bL_law_108, uL_law_108, bL_law_110, uL_law_110, bL_law_120, uL_law_120, bL_law_132, uL_law_132, bL_law_135, uL_law_135, bL_law_195, uL_law_195, bL_law_201, uL_law_201, bL_law_204, uL_law_204, bL_law_260, uL_law_260, bL_law_266, uL_law_266, bL_law_269, uL_law_269, bL_law_321, uL_law_321, bL_law_323, uL_law_323, bL_law_329, uL_law_329, bL_law_355, uL_law_355, bL_law_356, uL_law_356, bL_law_359, uL_law_359, bL_law_387, uL_law_387, bL_law_388, uL_law_388, bL_law_391, uL_law_391, bL_law_393, uL_law_393, bL_law_413, uL_law_413, bL_law_433, uL_law_433, bL_law_443, uL_law_443, bL_law_445, uL_law_445, bL_law_460, uL_law_460, bL_law_547, uL_law_547, bL_law_553, uL_law_553, bL_law_567, uL_law_567, bL_law_585, uL_law_585, bL_law_586, uL_law_586, bL_law_590, uL_law_590, bL_law_612, uL_law_612, bL_law_614, uL_law_614, bL_law_630, uL_law_630, bL_law_632, uL_law_632, bL_law_693, uL_law_693, bL_law_694, uL_law_694, pvMk_t, pvMk_f, pvMk_n, pvRtG, pvRecv_r, pvUp_nl, pvUp_same, pvUp_ap, pvSt_ap, pvX_c, pvX_ms, pvX_mn, pvE_nil, pvEn_i, pvEn_r, pvEn_l, pvEn_0, pvEn_s, pvRt, pvRv, pvTh, pvKc, pvGo, pvTgt, Int.toNat_natCast, false_and, and_false, true_and, and_true, if_true, if_false, reduceIte, reduceCtorEq, forall_const, false_or, or_false, true_or, or_true, ne_eq, not_true_eq_false, not_false_eq_true, implies_true, false_implies, Nat.reduceAdd, Nat.reduceSub, Nat.reduceMul, Nat.reduceEqDiff, Nat.reduceLT, Nat.reduceLeDiff, Int.reduceAdd, Int.reduceSub, Int.reduceMul, Int.reduceNeg, Int.reduceToNat, Int.reduceLE, Int.reduceLT, Int.reduceEq, Int.reduceNe, and_self]
  exact ⟨r0, nx⟩
