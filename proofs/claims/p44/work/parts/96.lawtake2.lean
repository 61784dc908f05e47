/-! what is taken: behind the rows that hold it -/
set_option maxRecDepth 100000 in
set_option maxHeartbeats 4000000 in
theorem okL_isTaken2 {lim : Nat → Prop} {sc : Nat × (Nat → Int)} {Q : pvO → pvM → Prop} {SW : pvJ} (hc : pvCloG lim sc fL (aL_isTaken lim sc) kL 10 (pvRtG 10 (some .boolean) Q) bL_isTaken uL_isTaken SW)
    {s df ini fin ini2 fin2 own : Int} {t u dl lt F : Nat} {z : pvM} {A B : Aut} (hl : ∀ id, id < 39 → lim id) (hs : 0 ≤ s ∧ s ≤ 1) (hdf : df = 0 ∨ df = 1) (hls : lsP z)
    (eA : autC (z.1 (rwC s)) = A) (eB : autC (z.1 (rwC (1 - s))) = B) (htA : trP lim z t A) (hini : ini = A.2.1 ∧ fin = A.2.2.1) (htB : trP lim z u B) (hini2 : ini2 = B.2.1 ∧ fin2 = B.2.2.1)
    (hF : F ≤ 10) (hfd : fdF A (bdF df B) F) (h20 : z.1 20 4 = F) (htk : tkP A (bdF df B) F (z.1 21) (z.1 22)) (hfs : fsP A B df own)
    (hdl : lim dl ∧ dl ≠ 60 ∧ 64 ≤ dl ∧ pvAI dl = 10) (hlt : lim lt ∧ lt ≠ 60 ∧ 64 ≤ lt ∧ pvAI lt = 10) (hne : dl ≠ lt ∧ t ≠ dl ∧ t ≠ lt ∧ u ≠ dl ∧ u ≠ lt) (hd0 : z.1 dl = fun _ => 0) (hl0 : z.1 lt = fun _ => 0)
    (hQ : ∀ z' : pvM, lsP z' → (∀ id, id ≠ dl → id ≠ lt → (id ≠ 0 ∧ id < 5 ∨ 64 ≤ id) → z'.1 id = z.1 id) → Q (.inl (some (vI 1))) z') :
    SW 133 [some (vR 0), some (vI s), some (vR t), some (vI ini), some (vI fin), some (vR u), some (vI ini2), some (vI fin2), some (vI df), none, some (vI (F : Int)), some (vI own), some (vR dl), some (vR lt), none] [] z 8 := by
  have hwA : WfA A := htA.2.1
  have hwB : WfA B := htB.2.1
  have hwB' := bdF_w (df := df) hwB
  have hw := tk_w hwA hwB' hfd hF htk
  have hg := tk_g hwA hwB' hfd hF htk
  have hp := (is_go hwA hwB hw (Int.le_refl _)).mpr hg
  obtain ⟨g1, g2, g3, g4, g5⟩ := fs_F hwA hwB hfd hF htk hfs
  have hl0' := hl 0 (by decide)
  have hd60 : (dl = 60) = False := eq_false hdl.2.1
  have hl60 : (lt = 60) = False := eq_false hlt.2.1
  have hdn : (dl = lt) = False := eq_false hne.1
  have hnd : (lt = dl) = False := eq_false fun h => hne.1 h.symm
  -- the rows hold the word
  let RW : pvM → Prop := fun z' => (∀ j, j < 10 → z'.1 dl j = (if j < F then z.1 21 j else 0) ∧ z'.1 lt j = (if j < F then z.1 22 j else 0))
  have hfin : ∀ z' : pvM, lsP z' → (∀ id, id ≠ dl → id ≠ lt → ¬ (5 ≤ id ∧ id ≤ 12) → z'.1 id = z.1 id) → RW z' → SW 278 [some (vR 0), some (vI s), some (vR t), some (vI ini), some (vI fin), some (vR u), some (vI ini2), some (vI fin2), some (vI df), none, some (vI (F : Int)), none, some (vR dl), some (vR lt), none] [] z' 8 := by
    intro z' h1 h2 h3
    have er : ∀ s', z'.1 (rwC s') = z.1 (rwC s') := fun s' => h2 _ (by have := rw_l (s := s'); omega) (by have := rw_l (s := s'); omega) (by have := rw_l (s := s'); omega)
    have e20 : z'.1 20 = z.1 20 := h2 20 (by omega) (by omega) (by omega)
    have e21 : z'.1 21 = z.1 21 := h2 21 (by omega) (by omega) (by omega)
    have e22 : z'.1 22 = z.1 22 := h2 22 (by omega) (by omega) (by omega)
    have hag : ∀ j, j < F → z'.1 dl j = z.1 21 j ∧ z'.1 lt j = z.1 22 j := fun j hj => by
      have := h3 j (by omega)
      rw [if_pos hj, if_pos hj] at this
      exact this
    have hw10 : WdF 10 (z'.1 dl) (z'.1 lt) := by
      refine ⟨by decide, fun j hj => ?_⟩
      obtain ⟨a1, a2⟩ := h3 j (by omega)
      rw [a1, a2]
      split
      · exact hw.2 j (by omega)
      · decide
    have hp' : isP A B df (z'.1 dl) (z'.1 lt) F := (is_e F hag).mpr hp
    have hW : ∀ s' : Int, 0 ≤ s' ∧ s' ≤ 1 → WfC (z'.1 (rwC s')) := fun s' hs' => (h1.1 s' hs').1
    have hwc : WcF z'.1 := h1.2.2.2.1
    have eA' : autC (z'.1 (rwC s)) = A := by rw [er, eA]
    have eB' : autC (z'.1 (rwC (1 - s))) = B := by rw [er, eB]
    have q := hQ z' h1 (fun id a b c => h2 id a b (by omega))
    have hpa : pvAnd (afK A (z.1 21) (z.1 22) F) A.2.2.1 ≠ 0 := hp.1
    have hpb : df = 1 → pvAnd (afK B (z.1 21) (z.1 22) F) B.2.2.1 = 0 := fun h => hp.2.resolve_left (by omega)
    have hts : ∃ A' B', trP lim z' t A' ∧ (ini = A'.2.1 ∧ fin = A'.2.2.1) ∧ trP lim z' u B' ∧ (ini2 = B'.2.1 ∧ fin2 = B'.2.2.1) ∧ A' = A ∧ B' = B := ⟨A, B, trP_m htA (h2 t hne.2.1 hne.2.2.1 (by have := htA.1.2.2.1; omega)), hini, trP_m htB (h2 u hne.2.2.2.1 hne.2.2.2.2 (by have := htB.1.2.2.1; omega)), hini2, rfl, rfl⟩
    obtain ⟨A', B', b1, b2, b3, b4, rfl, rfl⟩ := hts
    refine hc 20 _ _ _ _ _ fun _ _ _ => ?_
    clear hc hQ
    simp only [pvStG]
    simp only [C_L_isOne, C_X9_accepts, pvE_iload, pvLI_s, pvLd, pvE_if_eq, pvE_aload_n0, pvLA_s, pvE_iload_n1, pvE_invokevirtual, pvC1_s, pvC2_s, pvAf_v, pvAf_x, pvPop, pvCs, pvCat, pvPush, aL_isTaken_127, pvSh_0, pvSh_1, pvSh_2, pvSh_3, pvSh_4, pvSh_5, pvSh_6, pvSh_7, pvSh_8, pvSh_9, pvSh_10, pvSh_11, pvSh_12, pvSh_13, pvSh_14, pvSh_15, pvSh_16, pvSh_17, pvSh_18, pvSh_19, pvSh_20, pvSh_21, pvSh_22, pvSh_23, pvSh_24, pvSh_25, pvSh_26, pvSh_27, pvSh_28, pvSh_29, pvSh_30, pvSh_31, pvSh_32, pvSh_33, pvSh_34, pvSh_35, pvSh_36, pvSh_37, pvSh_38, pvE_goto, aL_isTaken_131, pvE_istore, pvS1, List.length_cons, List.length_nil, pvClr_i, pvClr_r, pvClr_l, pvClr_d, pvClr_f, pvClr_n, pvE_invokestatic (Ex := fun _ => none) (h0 := rfl), aL_isTaken_134, pvE_aload_n2, pvE_iload_n3, pvE_aload, aL_isTaken_138, pvE_if_ge, pvE_iconst, pvE_icmp_ne, pvE_if_ne, pvE_ireturn, aL_isTaken_142, pvE_icmp_lt, pvE_if_lt, pvE_sipush, pvE_idiv, pvE_icmp_eq, pvE_bipush, pvE_astore, pvE_icmp_ge, aL_isTaken_145, pvE_iastore, pvE_iinc, pvIc_s, pvE_iaload, pvE_imul, pvE_iadd, pvE_irem, aL_isTaken_148, pvE_lconst0, pvE_lcmp, aL_isTaken_123, aL_isTaken_152, pvE_isub, bL_isTaken_0, uL_isTaken_0, bL_isTaken_13, uL_isTaken_13, bL_isTaken_18, uL_isTaken_18, bL_isTaken_72, uL_isTaken_72, bL_isTaken_76, uL_isTaken_76, bL_isTaken_77, uL_isTaken_77, bL_isTaken_78, uL_isTaken_78, bL_isTaken_103, uL_isTaken_103, bL_isTaken_119, uL_isTaken_119, bL_isTaken_121, uL_isTaken_121, bL_isTaken_133, uL_isTaken_133, bL_isTaken_136, uL_isTaken_136, bL_isTaken_173, uL_isTaken_173, bL_isTaken_199, uL_isTaken_199, bL_isTaken_240, uL_isTaken_240, bL_isTaken_242, uL_isTaken_242, bL_isTaken_250, uL_isTaken_250, bL_isTaken_272, uL_isTaken_272, bL_isTaken_278, uL_isTaken_278, bL_isTaken_325, uL_isTaken_325, bL_isTaken_329, uL_isTaken_329, bL_isTaken_330, uL_isTaken_330, pvMk_t, pvMk_f, pvMk_n, pvRtG, pvRecv_r, pvUp_nl, pvUp_same, pvUp_ap, pvSt_ap, pvX_c, pvX_ms, pvX_mn, pvE_nil, pvEn_i, pvEn_r, pvEn_l, pvEn_0, pvEn_s, pvRt, pvRv, pvTh, pvKc, pvGo, pvTgt, Int.toNat_natCast, false_and, and_false, true_and, and_true, if_true, if_false, reduceIte, reduceCtorEq, forall_const, false_or, or_false, true_or, or_true, ne_eq, not_true_eq_false, not_false_eq_true, implies_true, false_implies, Nat.reduceAdd, Nat.reduceSub, Nat.reduceMul, Nat.reduceEqDiff, Nat.reduceLT, Nat.reduceLeDiff, Int.reduceAdd, Int.reduceSub, Int.reduceMul, Int.reduceNeg, Int.reduceToNat, Int.reduceLE, Int.reduceLT, Int.reduceEq, Int.reduceNe, and_self]
    rw [e20, e21, e22, h20, eA', eB', show ((F : Int)).toNat = F from rfl]
    refine ⟨A', B', ⟨b1, b2, b3, b4, hdf, 10, ⟨⟨hdl.1, hdl.2.1, hlt.1, hlt.2.1, by omega, by omega⟩, hw10⟩, by omega, by omega⟩, fun _ => ?_, fun h => absurd hp' h⟩
    (repeat' first | with_reducible apply And.intro | with_reducible intro _)
    all_goals first
      | omega
      | exact hl0'
      | exact hW _ (by assumption)
      | exact hwc
      | exact q
      | (exfalso; omega)
      | (exfalso; exact hpa (by assumption))
      | (exfalso; rename ¬ pvAnd (afK B' _ _ _) _ = 0 => q9; exact q9 (hpb (by omega)))
      | (exfalso; rename pvAnd (afK B' _ _ _) _ ≠ 0 => q9; exact q9 (hpb (by omega)))
      | trivial
  have h250 : df = 0 → ∀ (m k : Nat), k + m = F → ∀ z' : pvM, lsP z' → (∀ id, id ≠ dl → id ≠ lt → ¬ (5 ≤ id ∧ id ≤ 12) → z'.1 id = z.1 id) → RW z' → SW 250 [some (vR 0), some (vI s), some (vR t), some (vI ini), some (vI fin), some (vR u), some (vI ini2), some (vI fin2), some (vI df), none, some (vI (F : Int)), none, some (vR dl), some (vR lt), some (vI (k : Int))] [] z' 8 := by
    intro hdf0 m
    induction m with
    | zero =>
      intro k hk z' h1 h2 h3
      obtain rfl : k = F := by omega
      have q := hfin z' h1 h2 h3
      refine hc 20 _ _ _ _ _ fun _ _ _ => ?_
      clear hc hQ hfin
      simp only [pvStG]
      simp only [pvE_iload, pvLI_s, pvLd, pvE_if_eq, pvE_aload_n0, pvLA_s, pvE_iload_n1, pvE_invokevirtual, pvC1_s, pvC2_s, pvAf_v, pvAf_x, pvPop, pvCs, pvCat, pvPush, aL_isTaken_127, pvSh_0, pvSh_1, pvSh_2, pvSh_3, pvSh_4, pvSh_5, pvSh_6, pvSh_7, pvSh_8, pvSh_9, pvSh_10, pvSh_11, pvSh_12, pvSh_13, pvSh_14, pvSh_15, pvSh_16, pvSh_17, pvSh_18, pvSh_19, pvSh_20, pvSh_21, pvSh_22, pvSh_23, pvSh_24, pvSh_25, pvSh_26, pvSh_27, pvSh_28, pvSh_29, pvSh_30, pvSh_31, pvSh_32, pvSh_33, pvSh_34, pvSh_35, pvSh_36, pvSh_37, pvSh_38, pvE_goto, aL_isTaken_131, pvE_istore, pvS1, List.length_cons, List.length_nil, pvClr_i, pvClr_r, pvClr_l, pvClr_d, pvClr_f, pvClr_n, pvE_invokestatic (Ex := fun _ => none) (h0 := rfl), aL_isTaken_134, pvE_aload_n2, pvE_iload_n3, pvE_aload, aL_isTaken_138, pvE_if_ge, pvE_iconst, pvE_icmp_ne, pvE_if_ne, pvE_ireturn, aL_isTaken_142, pvE_icmp_lt, pvE_if_lt, pvE_sipush, pvE_idiv, pvE_icmp_eq, pvE_bipush, pvE_astore, pvE_icmp_ge, aL_isTaken_145, pvE_iastore, pvE_iinc, pvIc_s, pvE_iaload, pvE_imul, pvE_iadd, pvE_irem, aL_isTaken_148, pvE_lconst0, pvE_lcmp, aL_isTaken_123, aL_isTaken_152, pvE_isub, bL_isTaken_0, uL_isTaken_0, bL_isTaken_13, uL_isTaken_13, bL_isTaken_18, uL_isTaken_18, bL_isTaken_72, uL_isTaken_72, bL_isTaken_76, uL_isTaken_76, bL_isTaken_77, uL_isTaken_77, bL_isTaken_78, uL_isTaken_78, bL_isTaken_103, uL_isTaken_103, bL_isTaken_119, uL_isTaken_119, bL_isTaken_121, uL_isTaken_121, bL_isTaken_133, uL_isTaken_133, bL_isTaken_136, uL_isTaken_136, bL_isTaken_173, uL_isTaken_173, bL_isTaken_199, uL_isTaken_199, bL_isTaken_240, uL_isTaken_240, bL_isTaken_242, uL_isTaken_242, bL_isTaken_250, uL_isTaken_250, bL_isTaken_272, uL_isTaken_272, bL_isTaken_278, uL_isTaken_278, bL_isTaken_325, uL_isTaken_325, bL_isTaken_329, uL_isTaken_329, bL_isTaken_330, uL_isTaken_330, pvMk_t, pvMk_f, pvMk_n, pvRtG, pvRecv_r, pvUp_nl, pvUp_same, pvUp_ap, pvSt_ap, pvX_c, pvX_ms, pvX_mn, pvE_nil, pvEn_i, pvEn_r, pvEn_l, pvEn_0, pvEn_s, pvRt, pvRv, pvTh, pvKc, pvGo, pvTgt, Int.toNat_natCast, false_and, and_false, true_and, and_true, if_true, if_false, reduceIte, reduceCtorEq, forall_const, false_or, or_false, true_or, or_true, ne_eq, not_true_eq_false, not_false_eq_true, implies_true, false_implies, Nat.reduceAdd, Nat.reduceSub, Nat.reduceMul, Nat.reduceEqDiff, Nat.reduceLT, Nat.reduceLeDiff, Int.reduceAdd, Int.reduceSub, Int.reduceMul, Int.reduceNeg, Int.reduceToNat, Int.reduceLE, Int.reduceLT, Int.reduceEq, Int.reduceNe, and_self]
      exact ⟨fun _ => q, fun h => absurd h (by omega)⟩
    | succ m ih =>
      intro k hk z' h1 h2 h3
      have er : ∀ s', z'.1 (rwC s') = z.1 (rwC s') := fun s' => h2 _ (by have := rw_l (s := s'); omega) (by have := rw_l (s := s'); omega) (by have := rw_l (s := s'); omega)
      have eA' : autC (z'.1 (rwC s)) = A := by rw [er, eA]
      have hfd0 : fdF A emA F := by
        have : bdF df B = emA := if_pos hdf0
        rw [this] at hfd
        exact hfd
      have hzero : wdF A 5 k (3440 + A.2.1) = 0 := wd_none hwA hfd0 (by omega) hF
      have key : ∀ z2, frF [5, 6, 7, 8, 9, 10, 11, 12] [34, 35] z' z2 → pzF z2 → SW 250 [some (vR 0), some (vI s), some (vR t), some (vI ini), some (vI fin), some (vR u), some (vI ini2), some (vI fin2), some (vI df), none, some (vI (F : Int)), none, some (vR dl), some (vR lt), some (vI ((k : Int) + 1))] [] z2 8 := fun z2 f p => by
        have e1 : z2.1 dl = z'.1 dl := f.1 dl (by have := hdl.2.2.1; simp; omega)
        have e2 : z2.1 lt = z'.1 lt := f.1 lt (by have := hlt.2.2.1; simp; omega)
        refine ih (k + 1) (by omega) z2 (lsP_aw h1 f p) (fun id a b c => (f.1 id (by simp; omega)).trans (h2 id a b c)) ?_
        show ∀ j, j < 10 → _
        rw [e1, e2]
        exact h3
      refine hc 20 _ _ _ _ _ fun _ _ _ => ?_
      clear hc hQ hfin ih
      simp only [pvStG]
      simp only [C_X9_acceptedWords, pvE_iload, pvLI_s, pvLd, pvE_if_eq, pvE_aload_n0, pvLA_s, pvE_iload_n1, pvE_invokevirtual, pvC1_s, pvC2_s, pvAf_v, pvAf_x, pvPop, pvCs, pvCat, pvPush, aL_isTaken_127, pvSh_0, pvSh_1, pvSh_2, pvSh_3, pvSh_4, pvSh_5, pvSh_6, pvSh_7, pvSh_8, pvSh_9, pvSh_10, pvSh_11, pvSh_12, pvSh_13, pvSh_14, pvSh_15, pvSh_16, pvSh_17, pvSh_18, pvSh_19, pvSh_20, pvSh_21, pvSh_22, pvSh_23, pvSh_24, pvSh_25, pvSh_26, pvSh_27, pvSh_28, pvSh_29, pvSh_30, pvSh_31, pvSh_32, pvSh_33, pvSh_34, pvSh_35, pvSh_36, pvSh_37, pvSh_38, pvE_goto, aL_isTaken_131, pvE_istore, pvS1, List.length_cons, List.length_nil, pvClr_i, pvClr_r, pvClr_l, pvClr_d, pvClr_f, pvClr_n, pvE_invokestatic (Ex := fun _ => none) (h0 := rfl), aL_isTaken_134, pvE_aload_n2, pvE_iload_n3, pvE_aload, aL_isTaken_138, pvE_if_ge, pvE_iconst, pvE_icmp_ne, pvE_if_ne, pvE_ireturn, aL_isTaken_142, pvE_icmp_lt, pvE_if_lt, pvE_sipush, pvE_idiv, pvE_icmp_eq, pvE_bipush, pvE_astore, pvE_icmp_ge, aL_isTaken_145, pvE_iastore, pvE_iinc, pvIc_s, pvE_iaload, pvE_imul, pvE_iadd, pvE_irem, aL_isTaken_148, pvE_lconst0, pvE_lcmp, aL_isTaken_123, aL_isTaken_152, pvE_isub, bL_isTaken_0, uL_isTaken_0, bL_isTaken_13, uL_isTaken_13, bL_isTaken_18, uL_isTaken_18, bL_isTaken_72, uL_isTaken_72, bL_isTaken_76, uL_isTaken_76, bL_isTaken_77, uL_isTaken_77, bL_isTaken_78, uL_isTaken_78, bL_isTaken_103, uL_isTaken_103, bL_isTaken_119, uL_isTaken_119, bL_isTaken_121, uL_isTaken_121, bL_isTaken_133, uL_isTaken_133, bL_isTaken_136, uL_isTaken_136, bL_isTaken_173, uL_isTaken_173, bL_isTaken_199, uL_isTaken_199, bL_isTaken_240, uL_isTaken_240, bL_isTaken_242, uL_isTaken_242, bL_isTaken_250, uL_isTaken_250, bL_isTaken_272, uL_isTaken_272, bL_isTaken_278, uL_isTaken_278, bL_isTaken_325, uL_isTaken_325, bL_isTaken_329, uL_isTaken_329, bL_isTaken_330, uL_isTaken_330, pvMk_t, pvMk_f, pvMk_n, pvRtG, pvRecv_r, pvUp_nl, pvUp_same, pvUp_ap, pvSt_ap, pvX_c, pvX_ms, pvX_mn, pvE_nil, pvEn_i, pvEn_r, pvEn_l, pvEn_0, pvEn_s, pvRt, pvRv, pvTh, pvKc, pvGo, pvTgt, Int.toNat_natCast, false_and, and_false, true_and, and_true, if_true, if_false, reduceIte, reduceCtorEq, forall_const, false_or, or_false, true_or, or_true, ne_eq, not_true_eq_false, not_false_eq_true, implies_true, false_implies, Nat.reduceAdd, Nat.reduceSub, Nat.reduceMul, Nat.reduceEqDiff, Nat.reduceLT, Nat.reduceLeDiff, Int.reduceAdd, Int.reduceSub, Int.reduceMul, Int.reduceNeg, Int.reduceToNat, Int.reduceLE, Int.reduceLT, Int.reduceEq, Int.reduceNe, and_self]
      rw [eA', hzero]
      have r0 : pvRL 0 := ⟨by decide, by decide⟩
      refine ⟨fun h => absurd h (by omega), fun _ => ?_⟩
      refine ⟨by decide, hl0', h1.1, fun h => h hs, fun _ h => (h (by omega)).elim, fun _ _ z2 f p => ?_⟩
      have q := key z2 f p
      (repeat' first | with_reducible apply And.intro | with_reducible intro _)
      all_goals first
        | omega
        | exact q
        | exact r0
        | decide
        | (exfalso; omega)
        | trivial
  have h242 : ∀ z' : pvM, lsP z' → (∀ id, id ≠ dl → id ≠ lt → ¬ (5 ≤ id ∧ id ≤ 12) → z'.1 id = z.1 id) → RW z' → SW 242 [some (vR 0), some (vI s), some (vR t), some (vI ini), some (vI fin), some (vR u), some (vI ini2), some (vI fin2), some (vI df), none, some (vI (F : Int)), none, some (vR dl), some (vR lt), none] [] z' 8 := by
    intro z' h1 h2 h3
    have q1 := hfin z' h1 h2 h3
    have q2 := fun h => h250 h F 0 (Nat.zero_add _) z' h1 h2 h3
    refine hc 20 _ _ _ _ _ fun _ _ _ => ?_
    clear hc hQ hfin h250
    simp only [pvStG]
    simp only [pvE_iload, pvLI_s, pvLd, pvE_if_eq, pvE_aload_n0, pvLA_s, pvE_iload_n1, pvE_invokevirtual, pvC1_s, pvC2_s, pvAf_v, pvAf_x, pvPop, pvCs, pvCat, pvPush, aL_isTaken_127, pvSh_0, pvSh_1, pvSh_2, pvSh_3, pvSh_4, pvSh_5, pvSh_6, pvSh_7, pvSh_8, pvSh_9, pvSh_10, pvSh_11, pvSh_12, pvSh_13, pvSh_14, pvSh_15, pvSh_16, pvSh_17, pvSh_18, pvSh_19, pvSh_20, pvSh_21, pvSh_22, pvSh_23, pvSh_24, pvSh_25, pvSh_26, pvSh_27, pvSh_28, pvSh_29, pvSh_30, pvSh_31, pvSh_32, pvSh_33, pvSh_34, pvSh_35, pvSh_36, pvSh_37, pvSh_38, pvE_goto, aL_isTaken_131, pvE_istore, pvS1, List.length_cons, List.length_nil, pvClr_i, pvClr_r, pvClr_l, pvClr_d, pvClr_f, pvClr_n, pvE_invokestatic (Ex := fun _ => none) (h0 := rfl), aL_isTaken_134, pvE_aload_n2, pvE_iload_n3, pvE_aload, aL_isTaken_138, pvE_if_ge, pvE_iconst, pvE_icmp_ne, pvE_if_ne, pvE_ireturn, aL_isTaken_142, pvE_icmp_lt, pvE_if_lt, pvE_sipush, pvE_idiv, pvE_icmp_eq, pvE_bipush, pvE_astore, pvE_icmp_ge, aL_isTaken_145, pvE_iastore, pvE_iinc, pvIc_s, pvE_iaload, pvE_imul, pvE_iadd, pvE_irem, aL_isTaken_148, pvE_lconst0, pvE_lcmp, aL_isTaken_123, aL_isTaken_152, pvE_isub, bL_isTaken_0, uL_isTaken_0, bL_isTaken_13, uL_isTaken_13, bL_isTaken_18, uL_isTaken_18, bL_isTaken_72, uL_isTaken_72, bL_isTaken_76, uL_isTaken_76, bL_isTaken_77, uL_isTaken_77, bL_isTaken_78, uL_isTaken_78, bL_isTaken_103, uL_isTaken_103, bL_isTaken_119, uL_isTaken_119, bL_isTaken_121, uL_isTaken_121, bL_isTaken_133, uL_isTaken_133, bL_isTaken_136, uL_isTaken_136, bL_isTaken_173, uL_isTaken_173, bL_isTaken_199, uL_isTaken_199, bL_isTaken_240, uL_isTaken_240, bL_isTaken_242, uL_isTaken_242, bL_isTaken_250, uL_isTaken_250, bL_isTaken_272, uL_isTaken_272, bL_isTaken_278, uL_isTaken_278, bL_isTaken_325, uL_isTaken_325, bL_isTaken_329, uL_isTaken_329, bL_isTaken_330, uL_isTaken_330, pvMk_t, pvMk_f, pvMk_n, pvRtG, pvRecv_r, pvUp_nl, pvUp_same, pvUp_ap, pvSt_ap, pvX_c, pvX_ms, pvX_mn, pvE_nil, pvEn_i, pvEn_r, pvEn_l, pvEn_0, pvEn_s, pvRt, pvRv, pvTh, pvKc, pvGo, pvTgt, Int.toNat_natCast, false_and, and_false, true_and, and_true, if_true, if_false, reduceIte, reduceCtorEq, forall_const, false_or, or_false, true_or, or_true, ne_eq, not_true_eq_false, not_false_eq_true, implies_true, false_implies, Nat.reduceAdd, Nat.reduceSub, Nat.reduceMul, Nat.reduceEqDiff, Nat.reduceLT, Nat.reduceLeDiff, Int.reduceAdd, Int.reduceSub, Int.reduceMul, Int.reduceNeg, Int.reduceToNat, Int.reduceLE, Int.reduceLT, Int.reduceEq, Int.reduceNe, and_self]
    (repeat' first | with_reducible apply And.intro | with_reducible intro _)
    all_goals first
      | omega
      | exact q1
      | exact q2 (by omega)
      | (exfalso; omega)
      | trivial
  have h173 : ∀ z' : pvM, lsP z' → (∀ id, id ≠ dl → id ≠ lt → ¬ (5 ≤ id ∧ id ≤ 12) → z'.1 id = z.1 id) → RW z' → SW 173 [some (vR 0), some (vI s), some (vR t), some (vI ini), some (vI fin), some (vR u), some (vI ini2), some (vI fin2), some (vI df), none, some (vI (F : Int)), some (vI own), some (vR dl), some (vR lt), none] [] z' 8 := by
    intro z' h1 h2 h3
    have q1 := h242 z' h1 h2 h3
    have b0 := fun h : 0 < F => hw.2 0 (by omega)
    have b1 := fun h : 1 < F => hw.2 1 (by omega)
    obtain ⟨a1, a2⟩ := h3 0 (by decide)
    obtain ⟨a3, a4⟩ := h3 1 (by decide)
    have e1 : (0 : Int).toNat = 0 := rfl
    have e2 : (1 : Int).toNat = 1 := rfl
    refine hc 20 _ _ _ _ _ fun _ _ _ => ?_
    clear hc hQ hfin h250 h242
    simp only [pvStG]
    simp only [hd60, hl60, pvE_iload, pvLI_s, pvLd, pvE_if_eq, pvE_aload_n0, pvLA_s, pvE_iload_n1, pvE_invokevirtual, pvC1_s, pvC2_s, pvAf_v, pvAf_x, pvPop, pvCs, pvCat, pvPush, aL_isTaken_127, pvSh_0, pvSh_1, pvSh_2, pvSh_3, pvSh_4, pvSh_5, pvSh_6, pvSh_7, pvSh_8, pvSh_9, pvSh_10, pvSh_11, pvSh_12, pvSh_13, pvSh_14, pvSh_15, pvSh_16, pvSh_17, pvSh_18, pvSh_19, pvSh_20, pvSh_21, pvSh_22, pvSh_23, pvSh_24, pvSh_25, pvSh_26, pvSh_27, pvSh_28, pvSh_29, pvSh_30, pvSh_31, pvSh_32, pvSh_33, pvSh_34, pvSh_35, pvSh_36, pvSh_37, pvSh_38, pvE_goto, aL_isTaken_131, pvE_istore, pvS1, List.length_cons, List.length_nil, pvClr_i, pvClr_r, pvClr_l, pvClr_d, pvClr_f, pvClr_n, pvE_invokestatic (Ex := fun _ => none) (h0 := rfl), aL_isTaken_134, pvE_aload_n2, pvE_iload_n3, pvE_aload, aL_isTaken_138, pvE_if_ge, pvE_iconst, pvE_icmp_ne, pvE_if_ne, pvE_ireturn, aL_isTaken_142, pvE_icmp_lt, pvE_if_lt, pvE_sipush, pvE_idiv, pvE_icmp_eq, pvE_bipush, pvE_astore, pvE_icmp_ge, aL_isTaken_145, pvE_iastore, pvE_iinc, pvIc_s, pvE_iaload, pvE_imul, pvE_iadd, pvE_irem, aL_isTaken_148, pvE_lconst0, pvE_lcmp, aL_isTaken_123, aL_isTaken_152, pvE_isub, bL_isTaken_0, uL_isTaken_0, bL_isTaken_13, uL_isTaken_13, bL_isTaken_18, uL_isTaken_18, bL_isTaken_72, uL_isTaken_72, bL_isTaken_76, uL_isTaken_76, bL_isTaken_77, uL_isTaken_77, bL_isTaken_78, uL_isTaken_78, bL_isTaken_103, uL_isTaken_103, bL_isTaken_119, uL_isTaken_119, bL_isTaken_121, uL_isTaken_121, bL_isTaken_133, uL_isTaken_133, bL_isTaken_136, uL_isTaken_136, bL_isTaken_173, uL_isTaken_173, bL_isTaken_199, uL_isTaken_199, bL_isTaken_240, uL_isTaken_240, bL_isTaken_242, uL_isTaken_242, bL_isTaken_250, uL_isTaken_250, bL_isTaken_272, uL_isTaken_272, bL_isTaken_278, uL_isTaken_278, bL_isTaken_325, uL_isTaken_325, bL_isTaken_329, uL_isTaken_329, bL_isTaken_330, uL_isTaken_330, pvMk_t, pvMk_f, pvMk_n, pvRtG, pvRecv_r, pvUp_nl, pvUp_same, pvUp_ap, pvSt_ap, pvX_c, pvX_ms, pvX_mn, pvE_nil, pvEn_i, pvEn_r, pvEn_l, pvEn_0, pvEn_s, pvRt, pvRv, pvTh, pvKc, pvGo, pvTgt, Int.toNat_natCast, false_and, and_false, true_and, and_true, if_true, if_false, reduceIte, reduceCtorEq, forall_const, false_or, or_false, true_or, or_true, ne_eq, not_true_eq_false, not_false_eq_true, implies_true, false_implies, Nat.reduceAdd, Nat.reduceSub, Nat.reduceMul, Nat.reduceEqDiff, Nat.reduceLT, Nat.reduceLeDiff, Int.reduceAdd, Int.reduceSub, Int.reduceMul, Int.reduceNeg, Int.reduceToNat, Int.reduceLE, Int.reduceLT, Int.reduceEq, Int.reduceNe, and_self]
    rcases (show F = 0 ∨ F = 1 ∨ F = 2 ∨ 3 ≤ F by omega) with rfl | rfl | rfl | h3F
    · (repeat' first | with_reducible apply And.intro | with_reducible intro _)
      all_goals first
        | omega
        | exact q1
        | exact hdl.1
        | exact hlt.1
        | (exfalso; omega)
        | trivial
    · have b0' := b0 (by decide)
      have g3' := g3 rfl
      have g2' := fun h => g2 h
      rw [if_pos (by decide)] at a1 a2
      simp only [a1, a2]
      (repeat' first | with_reducible apply And.intro | with_reducible intro _)
      all_goals first
        | omega
        | exact q1
        | exact hdl.1
        | exact hlt.1
        | (exfalso; omega)
        | trivial
    · have b0' := b0 (by decide)
      have b1' := b1 (by decide)
      have g4' := g4 rfl
      rw [if_pos (by decide)] at a1 a2 a3 a4
      simp only [a1, a2, a3, a4]
      (repeat' first | with_reducible apply And.intro | with_reducible intro _)
      all_goals first
        | omega
        | exact q1
        | exact hdl.1
        | exact hlt.1
        | (exfalso; omega)
        | trivial
    · (repeat' first | with_reducible apply And.intro | with_reducible intro _)
      all_goals first
        | omega
        | exact q1
        | exact hdl.1
        | exact hlt.1
        | (exfalso; omega)
        | trivial
  have h136 : ∀ (m k : Nat), k + m = F → ∀ z' : pvM, z'.2 = z.2 → (∀ id, id ≠ dl → id ≠ lt → z'.1 id = z.1 id) → (∀ j, j < 10 → z'.1 dl j = (if j < k then z.1 21 j else 0) ∧ z'.1 lt j = (if j < k then z.1 22 j else 0)) → SW 136 [some (vR 0), some (vI s), some (vR t), some (vI ini), some (vI fin), some (vR u), some (vI ini2), some (vI fin2), some (vI df), none, some (vI (F : Int)), some (vI own), some (vR dl), some (vR lt), some (vI (k : Int))] [] z' 8 := by
    intro m
    induction m with
    | zero =>
      intro k hk z' h0 h1 h2
      obtain rfl : k = F := by omega
      have q := h173 z' (lsP_c hls (fun id h => h1 id (by have := hdl.2.2.1; omega) (by have := hlt.2.2.1; omega))) (fun id a b _ => h1 id a b) h2
      refine hc 20 _ _ _ _ _ fun _ _ _ => ?_
      clear hc hQ hfin h250 h242 h173
      simp only [pvStG]
      simp only [pvE_iload, pvLI_s, pvLd, pvE_if_eq, pvE_aload_n0, pvLA_s, pvE_iload_n1, pvE_invokevirtual, pvC1_s, pvC2_s, pvAf_v, pvAf_x, pvPop, pvCs, pvCat, pvPush, aL_isTaken_127, pvSh_0, pvSh_1, pvSh_2, pvSh_3, pvSh_4, pvSh_5, pvSh_6, pvSh_7, pvSh_8, pvSh_9, pvSh_10, pvSh_11, pvSh_12, pvSh_13, pvSh_14, pvSh_15, pvSh_16, pvSh_17, pvSh_18, pvSh_19, pvSh_20, pvSh_21, pvSh_22, pvSh_23, pvSh_24, pvSh_25, pvSh_26, pvSh_27, pvSh_28, pvSh_29, pvSh_30, pvSh_31, pvSh_32, pvSh_33, pvSh_34, pvSh_35, pvSh_36, pvSh_37, pvSh_38, pvE_goto, aL_isTaken_131, pvE_istore, pvS1, List.length_cons, List.length_nil, pvClr_i, pvClr_r, pvClr_l, pvClr_d, pvClr_f, pvClr_n, pvE_invokestatic (Ex := fun _ => none) (h0 := rfl), aL_isTaken_134, pvE_aload_n2, pvE_iload_n3, pvE_aload, aL_isTaken_138, pvE_if_ge, pvE_iconst, pvE_icmp_ne, pvE_if_ne, pvE_ireturn, aL_isTaken_142, pvE_icmp_lt, pvE_if_lt, pvE_sipush, pvE_idiv, pvE_icmp_eq, pvE_bipush, pvE_astore, pvE_icmp_ge, aL_isTaken_145, pvE_iastore, pvE_iinc, pvIc_s, pvE_iaload, pvE_imul, pvE_iadd, pvE_irem, aL_isTaken_148, pvE_lconst0, pvE_lcmp, aL_isTaken_123, aL_isTaken_152, pvE_isub, bL_isTaken_0, uL_isTaken_0, bL_isTaken_13, uL_isTaken_13, bL_isTaken_18, uL_isTaken_18, bL_isTaken_72, uL_isTaken_72, bL_isTaken_76, uL_isTaken_76, bL_isTaken_77, uL_isTaken_77, bL_isTaken_78, uL_isTaken_78, bL_isTaken_103, uL_isTaken_103, bL_isTaken_119, uL_isTaken_119, bL_isTaken_121, uL_isTaken_121, bL_isTaken_133, uL_isTaken_133, bL_isTaken_136, uL_isTaken_136, bL_isTaken_173, uL_isTaken_173, bL_isTaken_199, uL_isTaken_199, bL_isTaken_240, uL_isTaken_240, bL_isTaken_242, uL_isTaken_242, bL_isTaken_250, uL_isTaken_250, bL_isTaken_272, uL_isTaken_272, bL_isTaken_278, uL_isTaken_278, bL_isTaken_325, uL_isTaken_325, bL_isTaken_329, uL_isTaken_329, bL_isTaken_330, uL_isTaken_330, pvMk_t, pvMk_f, pvMk_n, pvRtG, pvRecv_r, pvUp_nl, pvUp_same, pvUp_ap, pvSt_ap, pvX_c, pvX_ms, pvX_mn, pvE_nil, pvEn_i, pvEn_r, pvEn_l, pvEn_0, pvEn_s, pvRt, pvRv, pvTh, pvKc, pvGo, pvTgt, Int.toNat_natCast, false_and, and_false, true_and, and_true, if_true, if_false, reduceIte, reduceCtorEq, forall_const, false_or, or_false, true_or, or_true, ne_eq, not_true_eq_false, not_false_eq_true, implies_true, false_implies, Nat.reduceAdd, Nat.reduceSub, Nat.reduceMul, Nat.reduceEqDiff, Nat.reduceLT, Nat.reduceLeDiff, Int.reduceAdd, Int.reduceSub, Int.reduceMul, Int.reduceNeg, Int.reduceToNat, Int.reduceLE, Int.reduceLT, Int.reduceEq, Int.reduceNe, and_self]
      exact ⟨fun _ => q, fun h => absurd h (by omega)⟩
    | succ m ih =>
      intro k hk z' h0 h1 h2
      have e20 : z'.1 20 = z.1 20 := h1 20 (by have := hdl.2.2.1; omega) (by have := hlt.2.2.1; omega)
      have e21 : z'.1 21 = z.1 21 := h1 21 (by have := hdl.2.2.1; omega) (by have := hlt.2.2.1; omega)
      have e22 : z'.1 22 = z.1 22 := h1 22 (by have := hdl.2.2.1; omega) (by have := hlt.2.2.1; omega)
      have n20 : ((20 : Nat) = dl) = False := eq_false (by have := hdl.2.2.1; omega)
      have n22 : ((22 : Nat) = dl) = False := eq_false (by have := hdl.2.2.1; omega)
      have q := ih (k + 1) (by omega) (pvUp (pvUp z'.1 dl k (z.1 21 k)) lt k (z.1 22 k), z'.2) h0 (fun id a b => by show pvUp _ lt k _ id = _; rw [pvUp_ne b, pvUp_ne a]; exact h1 id a b) (fun j hj => by
        obtain ⟨a1, a2⟩ := h2 j hj
        simp only [pvUp_ap, hdn, hnd, false_and, if_false, true_and, a1, a2]
        by_cases e : j = k
        · subst e
          rw [if_pos rfl, if_pos rfl, if_pos (by omega), if_pos (by omega)]
          exact ⟨rfl, rfl⟩
        · rw [if_neg e, if_neg e]
          by_cases e2 : j < k
          · rw [if_pos e2, if_pos e2, if_pos (by omega), if_pos (by omega)]
            exact ⟨rfl, rfl⟩
          · rw [if_neg e2, if_neg e2, if_neg (by omega), if_neg (by omega)]
            exact ⟨rfl, rfl⟩)
      refine hc 20 _ _ _ _ _ fun _ _ _ => ?_
      clear hc hQ hfin h250 h242 h173 ih
      simp only [pvStG]
      simp only [C_X9_event, hd60, hl60, n20, n22, pvE_iload, pvLI_s, pvLd, pvE_if_eq, pvE_aload_n0, pvLA_s, pvE_iload_n1, pvE_invokevirtual, pvC1_s, pvC2_s, pvAf_v, pvAf_x, pvPop, pvCs, pvCat, pvPush, aL_isTaken_127, pvSh_0, pvSh_1, pvSh_2, pvSh_3, pvSh_4, pvSh_5, pvSh_6, pvSh_7, pvSh_8, pvSh_9, pvSh_10, pvSh_11, pvSh_12, pvSh_13, pvSh_14, pvSh_15, pvSh_16, pvSh_17, pvSh_18, pvSh_19, pvSh_20, pvSh_21, pvSh_22, pvSh_23, pvSh_24, pvSh_25, pvSh_26, pvSh_27, pvSh_28, pvSh_29, pvSh_30, pvSh_31, pvSh_32, pvSh_33, pvSh_34, pvSh_35, pvSh_36, pvSh_37, pvSh_38, pvE_goto, aL_isTaken_131, pvE_istore, pvS1, List.length_cons, List.length_nil, pvClr_i, pvClr_r, pvClr_l, pvClr_d, pvClr_f, pvClr_n, pvE_invokestatic (Ex := fun _ => none) (h0 := rfl), aL_isTaken_134, pvE_aload_n2, pvE_iload_n3, pvE_aload, aL_isTaken_138, pvE_if_ge, pvE_iconst, pvE_icmp_ne, pvE_if_ne, pvE_ireturn, aL_isTaken_142, pvE_icmp_lt, pvE_if_lt, pvE_sipush, pvE_idiv, pvE_icmp_eq, pvE_bipush, pvE_astore, pvE_icmp_ge, aL_isTaken_145, pvE_iastore, pvE_iinc, pvIc_s, pvE_iaload, pvE_imul, pvE_iadd, pvE_irem, aL_isTaken_148, pvE_lconst0, pvE_lcmp, aL_isTaken_123, aL_isTaken_152, pvE_isub, bL_isTaken_0, uL_isTaken_0, bL_isTaken_13, uL_isTaken_13, bL_isTaken_18, uL_isTaken_18, bL_isTaken_72, uL_isTaken_72, bL_isTaken_76, uL_isTaken_76, bL_isTaken_77, uL_isTaken_77, bL_isTaken_78, uL_isTaken_78, bL_isTaken_103, uL_isTaken_103, bL_isTaken_119, uL_isTaken_119, bL_isTaken_121, uL_isTaken_121, bL_isTaken_133, uL_isTaken_133, bL_isTaken_136, uL_isTaken_136, bL_isTaken_173, uL_isTaken_173, bL_isTaken_199, uL_isTaken_199, bL_isTaken_240, uL_isTaken_240, bL_isTaken_242, uL_isTaken_242, bL_isTaken_250, uL_isTaken_250, bL_isTaken_272, uL_isTaken_272, bL_isTaken_278, uL_isTaken_278, bL_isTaken_325, uL_isTaken_325, bL_isTaken_329, uL_isTaken_329, bL_isTaken_330, uL_isTaken_330, pvMk_t, pvMk_f, pvMk_n, pvRtG, pvRecv_r, pvUp_nl, pvUp_same, pvUp_ap, pvSt_ap, pvX_c, pvX_ms, pvX_mn, pvE_nil, pvEn_i, pvEn_r, pvEn_l, pvEn_0, pvEn_s, pvRt, pvRv, pvTh, pvKc, pvGo, pvTgt, Int.toNat_natCast, false_and, and_false, true_and, and_true, if_true, if_false, reduceIte, reduceCtorEq, forall_const, false_or, or_false, true_or, or_true, ne_eq, not_true_eq_false, not_false_eq_true, implies_true, false_implies, Nat.reduceAdd, Nat.reduceSub, Nat.reduceMul, Nat.reduceEqDiff, Nat.reduceLT, Nat.reduceLeDiff, Int.reduceAdd, Int.reduceSub, Int.reduceMul, Int.reduceNeg, Int.reduceToNat, Int.reduceLE, Int.reduceLT, Int.reduceEq, Int.reduceNe, and_self]
      simp only [e20, e21, e22, h20, Int.toNat_natCast]
      (repeat' first | with_reducible apply And.intro | with_reducible intro _)
      all_goals first
        | omega
        | exact q
        | exact hdl.1
        | exact hlt.1
        | exact hl0'
        | (exfalso; omega)
        | decide
        | trivial
  have q := h136 F 0 (Nat.zero_add _) z rfl (fun _ _ _ => rfl) (fun j hj => by rw [hd0, hl0]; exact ⟨rfl, rfl⟩)
  refine hc 20 _ _ _ _ _ fun _ _ _ => ?_
  clear hc hQ hfin h250 h242 h173 h136
  simp only [pvStG]
  simp only [pvE_iload, pvLI_s, pvLd, pvE_if_eq, pvE_aload_n0, pvLA_s, pvE_iload_n1, pvE_invokevirtual, pvC1_s, pvC2_s, pvAf_v, pvAf_x, pvPop, pvCs, pvCat, pvPush, aL_isTaken_127, pvSh_0, pvSh_1, pvSh_2, pvSh_3, pvSh_4, pvSh_5, pvSh_6, pvSh_7, pvSh_8, pvSh_9, pvSh_10, pvSh_11, pvSh_12, pvSh_13, pvSh_14, pvSh_15, pvSh_16, pvSh_17, pvSh_18, pvSh_19, pvSh_20, pvSh_21, pvSh_22, pvSh_23, pvSh_24, pvSh_25, pvSh_26, pvSh_27, pvSh_28, pvSh_29, pvSh_30, pvSh_31, pvSh_32, pvSh_33, pvSh_34, pvSh_35, pvSh_36, pvSh_37, pvSh_38, pvE_goto, aL_isTaken_131, pvE_istore, pvS1, List.length_cons, List.length_nil, pvClr_i, pvClr_r, pvClr_l, pvClr_d, pvClr_f, pvClr_n, pvE_invokestatic (Ex := fun _ => none) (h0 := rfl), aL_isTaken_134, pvE_aload_n2, pvE_iload_n3, pvE_aload, aL_isTaken_138, pvE_if_ge, pvE_iconst, pvE_icmp_ne, pvE_if_ne, pvE_ireturn, aL_isTaken_142, pvE_icmp_lt, pvE_if_lt, pvE_sipush, pvE_idiv, pvE_icmp_eq, pvE_bipush, pvE_astore, pvE_icmp_ge, aL_isTaken_145, pvE_iastore, pvE_iinc, pvIc_s, pvE_iaload, pvE_imul, pvE_iadd, pvE_irem, aL_isTaken_148, pvE_lconst0, pvE_lcmp, aL_isTaken_123, aL_isTaken_152, pvE_isub, bL_isTaken_0, uL_isTaken_0, bL_isTaken_13, uL_isTaken_13, bL_isTaken_18, uL_isTaken_18, bL_isTaken_72, uL_isTaken_72, bL_isTaken_76, uL_isTaken_76, bL_isTaken_77, uL_isTaken_77, bL_isTaken_78, uL_isTaken_78, bL_isTaken_103, uL_isTaken_103, bL_isTaken_119, uL_isTaken_119, bL_isTaken_121, uL_isTaken_121, bL_isTaken_133, uL_isTaken_133, bL_isTaken_136, uL_isTaken_136, bL_isTaken_173, uL_isTaken_173, bL_isTaken_199, uL_isTaken_199, bL_isTaken_240, uL_isTaken_240, bL_isTaken_242, uL_isTaken_242, bL_isTaken_250, uL_isTaken_250, bL_isTaken_272, uL_isTaken_272, bL_isTaken_278, uL_isTaken_278, bL_isTaken_325, uL_isTaken_325, bL_isTaken_329, uL_isTaken_329, bL_isTaken_330, uL_isTaken_330, pvMk_t, pvMk_f, pvMk_n, pvRtG, pvRecv_r, pvUp_nl, pvUp_same, pvUp_ap, pvSt_ap, pvX_c, pvX_ms, pvX_mn, pvE_nil, pvEn_i, pvEn_r, pvEn_l, pvEn_0, pvEn_s, pvRt, pvRv, pvTh, pvKc, pvGo, pvTgt, Int.toNat_natCast, false_and, and_false, true_and, and_true, if_true, if_false, reduceIte, reduceCtorEq, forall_const, false_or, or_false, true_or, or_true, ne_eq, not_true_eq_false, not_false_eq_true, implies_true, false_implies, Nat.reduceAdd, Nat.reduceSub, Nat.reduceMul, Nat.reduceEqDiff, Nat.reduceLT, Nat.reduceLeDiff, Int.reduceAdd, Int.reduceSub, Int.reduceMul, Int.reduceNeg, Int.reduceToNat, Int.reduceLE, Int.reduceLT, Int.reduceEq, Int.reduceNe, and_self]
  exact ⟨⟨by decide, by decide⟩, q⟩
