/-! the reference's constructor, from its first calls on -/
def bX10_init : Nat → List (Instr × Nat)
  | 0 => [(.aload_n 0, 1), (.invokespecial 1, 3), (.aload_n 0, 1), (.sipush 326, 3), (.newarray .int, 2), (.putfield 7, 3), (.aload_n 0, 1), (.sipush 326, 3), (.newarray .int, 2), (.putfield 13, 3), (.aload_n 0, 1), (.sipush 2608, 3), (.newarray .int, 2), (.putfield 16, 3), (.aload_n 0, 1), (.bipush 10, 2), (.newarray .int, 2), (.putfield 19, 3), (.aload_n 0, 1), (.bipush 10, 2), (.newarray .int, 2), (.putfield 22, 3), (.aload_n 0, 1), (.bipush 30, 2), (.newarray .int, 2), (.putfield 25, 3), (.aload_n 0, 1), (.iconst (-1), 1), (.putfield 28, 3), (.aload_n 0, 1), (.bipush 12, 2), (.newarray .int, 2), (.putfield 32, 3), (.aload_n 0, 1), (.bipush 44, 2), (.newarray .long, 2), (.putfield 35, 3), (.aload_n 0, 1), (.sipush 5184, 3), (.newarray .int, 2), (.putfield 39, 3), (.aload_n 0, 1), (.bipush 16, 2), (.newarray .int, 2), (.putfield 42, 3), (.aload_n 0, 1), (.bipush 16, 2), (.newarray .int, 2), (.putfield 45, 3), (.aload_n 0, 1), (.bipush 16, 2), (.newarray .int, 2), (.putfield 48, 3), (.aload_n 0, 1), (.sipush 216, 3), (.newarray .int, 2), (.putfield 51, 3), (.aload_n 0, 1), (.sipush 23552, 3), (.newarray .int, 2), (.putfield 54, 3), (.aload_n 0, 1), (.sipush 23552, 3), (.newarray .int, 2), (.putfield 57, 3), (.aload_n 0, 1), (.sipush 23552, 3), (.newarray .int, 2), (.putfield 60, 3), (.aload_n 0, 1), (.sipush 1472, 3), (.newarray .long, 2), (.putfield 63, 3), (.aload_n 0, 1), (.sipush 1472, 3), (.newarray .long, 2), (.putfield 66, 3)]
  | 163 => [(.aload_n 0, 1), (.iconst 0, 1), (.invokevirtual 69, 3), (.aload_n 0, 1), (.iconst 1, 1), (.invokevirtual 69, 3), (.iconst 0, 1), (.istore_n 1, 1), (.iconst 0, 1), (.istore_n 2, 1)]
  | 177 => [(.iload_n 2, 1), (.sipush 216, 3), (.if_icmp .ge 68, 3), (.aload_n 0, 1), (.getfield 51, 3), (.iload_n 2, 1), (.iload_n 2, 1), (.bipush 6, 2), (.irem, 1), (.ifCond .eq 27, 3), (.iload_n 2, 1), (.bipush 6, 2), (.idiv, 1), (.bipush 6, 2), (.irem, 1), (.ifCond .eq 17, 3), (.iload_n 2, 1), (.bipush 36, 2), (.idiv, 1), (.ifCond .eq 10, 3), (.iload_n 2, 1), (.sipush 215, 3), (.if_icmp .ne 7, 3)]
  | 220 => [(.iload_n 1, 1), (.goto 4, 3)]
  | 224 => [(.iconst (-1), 1)]
  | 225 => [(.iastore, 1), (.iload_n 1, 1), (.aload_n 0, 1), (.getfield 51, 3), (.iload_n 2, 1), (.iaload, 1), (.ifCond .lt 7, 3), (.iconst 1, 1), (.goto 4, 3)]
  | 240 => [(.iconst 0, 1)]
  | 241 => [(.iadd, 1), (.istore_n 1, 1), (.iinc 2 1, 3), (.goto (-69), 3)]
  | 249 => [(.return_, 1)]
  | _ => []
def uX10_init : Nat → Option (List Bool)
  | 163 => some [true, false, false]
  | 177 => some [true, true, true]
  | _ => none
def aX10_init : pvCa
  | 69 => some (2, false, 9, 0, C_X10_clears)
  | _ => none
theorem bX10_init_0 : bX10_init 0 = [(.aload_n 0, 1), (.invokespecial 1, 3), (.aload_n 0, 1), (.sipush 326, 3), (.newarray .int, 2), (.putfield 7, 3), (.aload_n 0, 1), (.sipush 326, 3), (.newarray .int, 2), (.putfield 13, 3), (.aload_n 0, 1), (.sipush 2608, 3), (.newarray .int, 2), (.putfield 16, 3), (.aload_n 0, 1), (.bipush 10, 2), (.newarray .int, 2), (.putfield 19, 3), (.aload_n 0, 1), (.bipush 10, 2), (.newarray .int, 2), (.putfield 22, 3), (.aload_n 0, 1), (.bipush 30, 2), (.newarray .int, 2), (.putfield 25, 3), (.aload_n 0, 1), (.iconst (-1), 1), (.putfield 28, 3), (.aload_n 0, 1), (.bipush 12, 2), (.newarray .int, 2), (.putfield 32, 3), (.aload_n 0, 1), (.bipush 44, 2), (.newarray .long, 2), (.putfield 35, 3), (.aload_n 0, 1), (.sipush 5184, 3), (.newarray .int, 2), (.putfield 39, 3), (.aload_n 0, 1), (.bipush 16, 2), (.newarray .int, 2), (.putfield 42, 3), (.aload_n 0, 1), (.bipush 16, 2), (.newarray .int, 2), (.putfield 45, 3), (.aload_n 0, 1), (.bipush 16, 2), (.newarray .int, 2), (.putfield 48, 3), (.aload_n 0, 1), (.sipush 216, 3), (.newarray .int, 2), (.putfield 51, 3), (.aload_n 0, 1), (.sipush 23552, 3), (.newarray .int, 2), (.putfield 54, 3), (.aload_n 0, 1), (.sipush 23552, 3), (.newarray .int, 2), (.putfield 57, 3), (.aload_n 0, 1), (.sipush 23552, 3), (.newarray .int, 2), (.putfield 60, 3), (.aload_n 0, 1), (.sipush 1472, 3), (.newarray .long, 2), (.putfield 63, 3), (.aload_n 0, 1), (.sipush 1472, 3), (.newarray .long, 2), (.putfield 66, 3)] := rfl
theorem uX10_init_0 : uX10_init 0 = none := rfl
theorem bX10_init_163 : bX10_init 163 = [(.aload_n 0, 1), (.iconst 0, 1), (.invokevirtual 69, 3), (.aload_n 0, 1), (.iconst 1, 1), (.invokevirtual 69, 3), (.iconst 0, 1), (.istore_n 1, 1), (.iconst 0, 1), (.istore_n 2, 1)] := rfl
theorem uX10_init_163 : uX10_init 163 = some [true, false, false] := rfl
theorem bX10_init_177 : bX10_init 177 = [(.iload_n 2, 1), (.sipush 216, 3), (.if_icmp .ge 68, 3), (.aload_n 0, 1), (.getfield 51, 3), (.iload_n 2, 1), (.iload_n 2, 1), (.bipush 6, 2), (.irem, 1), (.ifCond .eq 27, 3), (.iload_n 2, 1), (.bipush 6, 2), (.idiv, 1), (.bipush 6, 2), (.irem, 1), (.ifCond .eq 17, 3), (.iload_n 2, 1), (.bipush 36, 2), (.idiv, 1), (.ifCond .eq 10, 3), (.iload_n 2, 1), (.sipush 215, 3), (.if_icmp .ne 7, 3)] := rfl
theorem uX10_init_177 : uX10_init 177 = some [true, true, true] := rfl
theorem bX10_init_220 : bX10_init 220 = [(.iload_n 1, 1), (.goto 4, 3)] := rfl
theorem uX10_init_220 : uX10_init 220 = none := rfl
theorem bX10_init_224 : bX10_init 224 = [(.iconst (-1), 1)] := rfl
theorem uX10_init_224 : uX10_init 224 = none := rfl
theorem bX10_init_225 : bX10_init 225 = [(.iastore, 1), (.iload_n 1, 1), (.aload_n 0, 1), (.getfield 51, 3), (.iload_n 2, 1), (.iaload, 1), (.ifCond .lt 7, 3), (.iconst 1, 1), (.goto 4, 3)] := rfl
theorem uX10_init_225 : uX10_init 225 = none := rfl
theorem bX10_init_240 : bX10_init 240 = [(.iconst 0, 1)] := rfl
theorem uX10_init_240 : uX10_init 240 = none := rfl
theorem bX10_init_241 : bX10_init 241 = [(.iadd, 1), (.istore_n 1, 1), (.iinc 2 1, 3), (.goto (-69), 3)] := rfl
theorem uX10_init_241 : uX10_init 241 = none := rfl
theorem bX10_init_249 : bX10_init 249 = [(.return_, 1)] := rfl
theorem uX10_init_249 : uX10_init 249 = none := rfl
theorem aX10_init_69 : aX10_init 69 = some (2, false, 9, 0, C_X10_clears) := rfl
def mX10_init : Room := { frames := 1, cells := 1, slots := 6, locals := 22 }
set_option maxRecDepth 100000 in
set_option maxHeartbeats 4000000 in
theorem ok_new_loop {Q : pvO → pvM → Prop} {SW : Nat → pvL → pvM → Prop} (hc : pvClo fX10 aX10_init kX10 eX10 none bX10_init uX10_init Q SW) (m : Nat) : ∀ (v : Nat) (z : pvM), v + m = 216 → (∀ w : Nat, w < v → z.1 52 w = if okB (w : Int) = true then smR w else -1) → (∀ z', frF [52] [] z z' → smP z' → Q (.inl none) z') → SW 177 [some (vR 39), some (vI (smR v)), some (vI (v : Int))] z := by
  induction m with
  | zero =>
    intro v z hv hw fin
    obtain rfl : v = 216 := by omega
    refine hc 20 _ _ _ fun _ _ => ?_
    clear hc
    simp only [pvSt1]
    simp only [pvE_aload_n0, pvLA_s, pvLd, pvE_sipush, pvE_putfield, pvPf_0, pvPf_1, fX10_7, pvSh_0, pvSh_1, pvSh_2, pvSh_3, pvSh_4, pvSh_5, pvSh_6, pvSh_7, pvSh_8, pvSh_9, pvSh_10, pvSh_11, pvSh_12, pvSh_13, pvSh_14, pvSh_15, pvSh_16, pvSh_17, pvSh_18, pvSh_19, pvSh_20, pvSh_21, pvSh_22, pvSh_23, pvSh_24, pvSh_25, pvSh_26, pvSh_27, pvSh_28, pvSh_29, pvSh_30, pvSh_31, pvSh_32, pvSh_33, pvSh_34, pvSh_35, pvSh_36, pvSh_37, pvSh_38, pvSh_39, pvSh_40, pvSh_41, pvSh_42, pvSh_43, pvSh_44, pvSh_45, pvSh_46, pvSh_47, pvSh_48, pvSh_49, pvSh_50, pvSh_51, pvSh_52, pvSh_53, pvSh_54, pvSh_55, pvSh_56, pvSh_57, pvSh_58, pvSh_59, fX10_13, fX10_16, pvE_bipush, fX10_19, fX10_22, fX10_25, pvE_iconst, fX10_28, fX10_32, fX10_35, fX10_39, fX10_42, fX10_45, fX10_48, fX10_51, fX10_54, fX10_57, fX10_60, fX10_63, fX10_66, pvE_invokevirtual, pvC1_s, pvC2_s, pvAf_v, pvAf_x, pvPop, pvCs, pvCat, pvPush, aX10_init_69, pvE_istore_n1, pvS1, List.length_cons, List.length_nil, pvClr_i, pvClr_r, pvClr_l, pvClr_d, pvClr_f, pvClr_n, pvE_istore_n2, pvE_iload_n2, pvLI_s, pvE_icmp_ge, pvE_getfield, pvGf_0, pvGf_1, pvGf_2, pvRf_0_0, pvRf_0_1, pvRf_0_2, pvRf_0_3, pvRf_0_4, pvRf_0_5, pvRf_0_6, pvRf_0_7, pvRf_0_8, pvRf_0_9, pvRf_0_10, pvRf_1_0, pvRf_3_0, pvRf_5_0, pvRf_5_1, pvRf_5_2, pvRf_9_0, pvRf_9_1, pvRf_9_2, pvRf_13_0, pvRf_13_1, pvRf_13_2, pvRf_17_0, pvRf_17_2, pvRf_20_0, pvRf_20_1, pvRf_20_2, pvRf_24_0, pvRf_24_1, pvRf_24_2, pvRf_28_0, pvRf_28_1, pvRf_28_2, pvRf_28_3, pvRf_33_0, pvRf_33_1, pvRf_36_0, pvRf_36_1, pvRf_39_0, pvRf_39_1, pvRf_39_2, pvRf_39_5, pvRf_39_6, pvRf_39_9, pvRf_39_13, pvRf_39_15, pvRf_39_16, pvRf_39_17, pvRf_39_19, pvRf_39_20, pvRf_39_22, pvRf_39_23, pvRf_39_24, pvRf_39_25, pvRf_39_29, pvRf_39_30, pvE_irem, pvE_if_eq, pvE_idiv, pvE_icmp_ne, pvE_iload_n1, pvE_goto, pvE_iastore, pvAI, pvE_iaload, pvE_if_lt, pvE_iadd, pvE_iinc, pvIc_s, pvE_return, bX10_init_0, uX10_init_0, bX10_init_163, uX10_init_163, bX10_init_177, uX10_init_177, bX10_init_220, uX10_init_220, bX10_init_224, uX10_init_224, bX10_init_225, uX10_init_225, bX10_init_240, uX10_init_240, bX10_init_241, uX10_init_241, bX10_init_249, uX10_init_249, pvMk_t, pvMk_f, pvMk_n, pvRecv_r, pvUp_nl, pvUp_same, pvUp_ap, pvSt_ap, pvX_c, pvX_ms, pvX_mn, pvE_nil, pvEn_i, pvEn_r, pvEn_l, pvEn_0, pvEn_s, pvRt, pvRv, pvTh, pvKc, pvGo, pvTgt, Int.toNat_natCast, false_and, and_false, true_and, and_true, if_true, if_false, reduceIte, reduceCtorEq, forall_const, false_or, or_false, true_or, or_true, ne_eq, not_true_eq_false, not_false_eq_true, implies_true, false_implies, Nat.reduceAdd, Nat.reduceSub, Nat.reduceMul, Nat.reduceEqDiff, Nat.reduceLT, Nat.reduceLeDiff, Int.reduceAdd, Int.reduceSub, Int.reduceMul, Int.reduceNeg, Int.reduceToNat, Int.reduceLE, Int.reduceLT, Int.reduceEq, Int.reduceNe, and_self]
    (repeat' first | with_reducible apply And.intro | with_reducible intro _)
    all_goals first
      | omega
      | exact fin z frF_0 hw
  | succ m ih =>
    intro v z hv hw fin
    have hs := smR_m 0 v
    rw [Nat.zero_add] at hs
    have hs0 : smR 0 = 0 := rfl
    have hs2 := smR_m v (216 - v)
    rw [show v + (216 - v) = 216 by omega, smR_216] at hs2
    have nx : ∀ x : Int, x = (if okB (v : Int) = true then smR v else -1) → SW 177 [some (vR 39), some (vI (smR (v + 1))), some (vI ((v : Int) + 1))] (pvUp z.1 52 v x, z.2) := by
      intro x hx
      have h9 := ih (v + 1) (pvUp z.1 52 v x, z.2) (by omega) (fun w hw9 => by
        show pvUp z.1 52 v x 52 w = _
        rw [pvUp_eq]
        by_cases q : w = v
        · rw [if_pos q, q]; exact hx
        · rw [if_neg q]; exact hw w (by omega)) (fun z' f s => fin z' (frF_t (frF_u frF_0 (by decide)) f (fun _ h => h) (fun _ h => h)) s)
      exact h9
    have ev : ((v : Int)).toNat = v := Int.toNat_natCast v
    refine hc 20 _ _ _ fun _ _ => ?_
    clear hc
    simp only [pvSt1]
    by_cases hb : okB (v : Int) = true
    · have hb2 := okB_t.mp hb
      have e1 : smR (v + 1) = smR v + 1 := by simp only [smR, if_pos hb]
      have h9 := nx (smR v) (by rw [if_pos hb])
      rw [e1] at h9
      simp only [pvE_aload_n0, pvLA_s, pvLd, pvE_sipush, pvE_putfield, pvPf_0, pvPf_1, fX10_7, pvSh_0, pvSh_1, pvSh_2, pvSh_3, pvSh_4, pvSh_5, pvSh_6, pvSh_7, pvSh_8, pvSh_9, pvSh_10, pvSh_11, pvSh_12, pvSh_13, pvSh_14, pvSh_15, pvSh_16, pvSh_17, pvSh_18, pvSh_19, pvSh_20, pvSh_21, pvSh_22, pvSh_23, pvSh_24, pvSh_25, pvSh_26, pvSh_27, pvSh_28, pvSh_29, pvSh_30, pvSh_31, pvSh_32, pvSh_33, pvSh_34, pvSh_35, pvSh_36, pvSh_37, pvSh_38, pvSh_39, pvSh_40, pvSh_41, pvSh_42, pvSh_43, pvSh_44, pvSh_45, pvSh_46, pvSh_47, pvSh_48, pvSh_49, pvSh_50, pvSh_51, pvSh_52, pvSh_53, pvSh_54, pvSh_55, pvSh_56, pvSh_57, pvSh_58, pvSh_59, fX10_13, fX10_16, pvE_bipush, fX10_19, fX10_22, fX10_25, pvE_iconst, fX10_28, fX10_32, fX10_35, fX10_39, fX10_42, fX10_45, fX10_48, fX10_51, fX10_54, fX10_57, fX10_60, fX10_63, fX10_66, pvE_invokevirtual, pvC1_s, pvC2_s, pvAf_v, pvAf_x, pvPop, pvCs, pvCat, pvPush, aX10_init_69, pvE_istore_n1, pvS1, List.length_cons, List.length_nil, pvClr_i, pvClr_r, pvClr_l, pvClr_d, pvClr_f, pvClr_n, pvE_istore_n2, pvE_iload_n2, pvLI_s, pvE_icmp_ge, pvE_getfield, pvGf_0, pvGf_1, pvGf_2, pvRf_0_0, pvRf_0_1, pvRf_0_2, pvRf_0_3, pvRf_0_4, pvRf_0_5, pvRf_0_6, pvRf_0_7, pvRf_0_8, pvRf_0_9, pvRf_0_10, pvRf_1_0, pvRf_3_0, pvRf_5_0, pvRf_5_1, pvRf_5_2, pvRf_9_0, pvRf_9_1, pvRf_9_2, pvRf_13_0, pvRf_13_1, pvRf_13_2, pvRf_17_0, pvRf_17_2, pvRf_20_0, pvRf_20_1, pvRf_20_2, pvRf_24_0, pvRf_24_1, pvRf_24_2, pvRf_28_0, pvRf_28_1, pvRf_28_2, pvRf_28_3, pvRf_33_0, pvRf_33_1, pvRf_36_0, pvRf_36_1, pvRf_39_0, pvRf_39_1, pvRf_39_2, pvRf_39_5, pvRf_39_6, pvRf_39_9, pvRf_39_13, pvRf_39_15, pvRf_39_16, pvRf_39_17, pvRf_39_19, pvRf_39_20, pvRf_39_22, pvRf_39_23, pvRf_39_24, pvRf_39_25, pvRf_39_29, pvRf_39_30, pvE_irem, pvE_if_eq, pvE_idiv, pvE_icmp_ne, pvE_iload_n1, pvE_goto, pvE_iastore, pvAI, pvE_iaload, pvE_if_lt, pvE_iadd, pvE_iinc, pvIc_s, pvE_return, bX10_init_0, uX10_init_0, bX10_init_163, uX10_init_163, bX10_init_177, uX10_init_177, bX10_init_220, uX10_init_220, bX10_init_224, uX10_init_224, bX10_init_225, uX10_init_225, bX10_init_240, uX10_init_240, bX10_init_241, uX10_init_241, bX10_init_249, uX10_init_249, pvMk_t, pvMk_f, pvMk_n, pvRecv_r, pvUp_nl, pvUp_same, pvUp_ap, pvSt_ap, pvX_c, pvX_ms, pvX_mn, pvE_nil, pvEn_i, pvEn_r, pvEn_l, pvEn_0, pvEn_s, pvRt, pvRv, pvTh, pvKc, pvGo, pvTgt, Int.toNat_natCast, false_and, and_false, true_and, and_true, if_true, if_false, reduceIte, reduceCtorEq, forall_const, false_or, or_false, true_or, or_true, ne_eq, not_true_eq_false, not_false_eq_true, implies_true, false_implies, Nat.reduceAdd, Nat.reduceSub, Nat.reduceMul, Nat.reduceEqDiff, Nat.reduceLT, Nat.reduceLeDiff, Int.reduceAdd, Int.reduceSub, Int.reduceMul, Int.reduceNeg, Int.reduceToNat, Int.reduceLE, Int.reduceLT, Int.reduceEq, Int.reduceNe, and_self]
      (repeat' first | with_reducible apply And.intro | with_reducible intro _)
      all_goals first
        | omega
        | exact h9
        | exact smR_r v (by omega)
    · have hb2 : ¬ ((v : Int) % 6 = 0 ∨ (v : Int) / 6 % 6 = 0 ∨ (v : Int) / 36 = 0 ∨ (v : Int) = 215) := fun q => hb (okB_t.mpr q)
      have e1 : smR (v + 1) = smR v + 0 := by simp only [smR, if_neg hb]
      have h9 := nx (-1) (by rw [if_neg hb])
      rw [e1] at h9
      simp only [pvE_aload_n0, pvLA_s, pvLd, pvE_sipush, pvE_putfield, pvPf_0, pvPf_1, fX10_7, pvSh_0, pvSh_1, pvSh_2, pvSh_3, pvSh_4, pvSh_5, pvSh_6, pvSh_7, pvSh_8, pvSh_9, pvSh_10, pvSh_11, pvSh_12, pvSh_13, pvSh_14, pvSh_15, pvSh_16, pvSh_17, pvSh_18, pvSh_19, pvSh_20, pvSh_21, pvSh_22, pvSh_23, pvSh_24, pvSh_25, pvSh_26, pvSh_27, pvSh_28, pvSh_29, pvSh_30, pvSh_31, pvSh_32, pvSh_33, pvSh_34, pvSh_35, pvSh_36, pvSh_37, pvSh_38, pvSh_39, pvSh_40, pvSh_41, pvSh_42, pvSh_43, pvSh_44, pvSh_45, pvSh_46, pvSh_47, pvSh_48, pvSh_49, pvSh_50, pvSh_51, pvSh_52, pvSh_53, pvSh_54, pvSh_55, pvSh_56, pvSh_57, pvSh_58, pvSh_59, fX10_13, fX10_16, pvE_bipush, fX10_19, fX10_22, fX10_25, pvE_iconst, fX10_28, fX10_32, fX10_35, fX10_39, fX10_42, fX10_45, fX10_48, fX10_51, fX10_54, fX10_57, fX10_60, fX10_63, fX10_66, pvE_invokevirtual, pvC1_s, pvC2_s, pvAf_v, pvAf_x, pvPop, pvCs, pvCat, pvPush, aX10_init_69, pvE_istore_n1, pvS1, List.length_cons, List.length_nil, pvClr_i, pvClr_r, pvClr_l, pvClr_d, pvClr_f, pvClr_n, pvE_istore_n2, pvE_iload_n2, pvLI_s, pvE_icmp_ge, pvE_getfield, pvGf_0, pvGf_1, pvGf_2, pvRf_0_0, pvRf_0_1, pvRf_0_2, pvRf_0_3, pvRf_0_4, pvRf_0_5, pvRf_0_6, pvRf_0_7, pvRf_0_8, pvRf_0_9, pvRf_0_10, pvRf_1_0, pvRf_3_0, pvRf_5_0, pvRf_5_1, pvRf_5_2, pvRf_9_0, pvRf_9_1, pvRf_9_2, pvRf_13_0, pvRf_13_1, pvRf_13_2, pvRf_17_0, pvRf_17_2, pvRf_20_0, pvRf_20_1, pvRf_20_2, pvRf_24_0, pvRf_24_1, pvRf_24_2, pvRf_28_0, pvRf_28_1, pvRf_28_2, pvRf_28_3, pvRf_33_0, pvRf_33_1, pvRf_36_0, pvRf_36_1, pvRf_39_0, pvRf_39_1, pvRf_39_2, pvRf_39_5, pvRf_39_6, pvRf_39_9, pvRf_39_13, pvRf_39_15, pvRf_39_16, pvRf_39_17, pvRf_39_19, pvRf_39_20, pvRf_39_22, pvRf_39_23, pvRf_39_24, pvRf_39_25, pvRf_39_29, pvRf_39_30, pvE_irem, pvE_if_eq, pvE_idiv, pvE_icmp_ne, pvE_iload_n1, pvE_goto, pvE_iastore, pvAI, pvE_iaload, pvE_if_lt, pvE_iadd, pvE_iinc, pvIc_s, pvE_return, bX10_init_0, uX10_init_0, bX10_init_163, uX10_init_163, bX10_init_177, uX10_init_177, bX10_init_220, uX10_init_220, bX10_init_224, uX10_init_224, bX10_init_225, uX10_init_225, bX10_init_240, uX10_init_240, bX10_init_241, uX10_init_241, bX10_init_249, uX10_init_249, pvMk_t, pvMk_f, pvMk_n, pvRecv_r, pvUp_nl, pvUp_same, pvUp_ap, pvSt_ap, pvX_c, pvX_ms, pvX_mn, pvE_nil, pvEn_i, pvEn_r, pvEn_l, pvEn_0, pvEn_s, pvRt, pvRv, pvTh, pvKc, pvGo, pvTgt, Int.toNat_natCast, false_and, and_false, true_and, and_true, if_true, if_false, reduceIte, reduceCtorEq, forall_const, false_or, or_false, true_or, or_true, ne_eq, not_true_eq_false, not_false_eq_true, implies_true, false_implies, Nat.reduceAdd, Nat.reduceSub, Nat.reduceMul, Nat.reduceEqDiff, Nat.reduceLT, Nat.reduceLeDiff, Int.reduceAdd, Int.reduceSub, Int.reduceMul, Int.reduceNeg, Int.reduceToNat, Int.reduceLE, Int.reduceLT, Int.reduceEq, Int.reduceNe, and_self]
      (repeat' first | with_reducible apply And.intro | with_reducible intro _)
      all_goals first
        | omega
        | exact h9
set_option maxRecDepth 100000 in
set_option maxHeartbeats 4000000 in
theorem ok_new {Q : pvO → pvM → Prop} {SW : Nat → pvL → pvM → Prop} (hc : pvClo fX10 aX10_init kX10 eX10 none bX10_init uX10_init Q SW) (z : pvM)
    (fin : ∀ z', frF [40, 52] [] z z' → (∀ s : Int, 0 ≤ s ∧ s ≤ 1 → z'.1 40 (163 * s).toNat = 1 ∧ ∀ j : Nat, 163 * s < j → (j : Int) < 163 * s + 163 → z'.1 40 j = 0) → smP z' → Q (.inl none) z') : SW 163 [some (vR 39), none, none] z := by
  refine hc 20 _ _ _ fun _ _ => ?_
  simp only [pvSt1]
  simp only [C_X10_clears, pvE_aload_n0, pvLA_s, pvLd, pvE_sipush, pvE_putfield, pvPf_0, pvPf_1, fX10_7, pvSh_0, pvSh_1, pvSh_2, pvSh_3, pvSh_4, pvSh_5, pvSh_6, pvSh_7, pvSh_8, pvSh_9, pvSh_10, pvSh_11, pvSh_12, pvSh_13, pvSh_14, pvSh_15, pvSh_16, pvSh_17, pvSh_18, pvSh_19, pvSh_20, pvSh_21, pvSh_22, pvSh_23, pvSh_24, pvSh_25, pvSh_26, pvSh_27, pvSh_28, pvSh_29, pvSh_30, pvSh_31, pvSh_32, pvSh_33, pvSh_34, pvSh_35, pvSh_36, pvSh_37, pvSh_38, pvSh_39, pvSh_40, pvSh_41, pvSh_42, pvSh_43, pvSh_44, pvSh_45, pvSh_46, pvSh_47, pvSh_48, pvSh_49, pvSh_50, pvSh_51, pvSh_52, pvSh_53, pvSh_54, pvSh_55, pvSh_56, pvSh_57, pvSh_58, pvSh_59, fX10_13, fX10_16, pvE_bipush, fX10_19, fX10_22, fX10_25, pvE_iconst, fX10_28, fX10_32, fX10_35, fX10_39, fX10_42, fX10_45, fX10_48, fX10_51, fX10_54, fX10_57, fX10_60, fX10_63, fX10_66, pvE_invokevirtual, pvC1_s, pvC2_s, pvAf_v, pvAf_x, pvPop, pvCs, pvCat, pvPush, aX10_init_69, pvE_istore_n1, pvS1, List.length_cons, List.length_nil, pvClr_i, pvClr_r, pvClr_l, pvClr_d, pvClr_f, pvClr_n, pvE_istore_n2, pvE_iload_n2, pvLI_s, pvE_icmp_ge, pvE_getfield, pvGf_0, pvGf_1, pvGf_2, pvRf_0_0, pvRf_0_1, pvRf_0_2, pvRf_0_3, pvRf_0_4, pvRf_0_5, pvRf_0_6, pvRf_0_7, pvRf_0_8, pvRf_0_9, pvRf_0_10, pvRf_1_0, pvRf_3_0, pvRf_5_0, pvRf_5_1, pvRf_5_2, pvRf_9_0, pvRf_9_1, pvRf_9_2, pvRf_13_0, pvRf_13_1, pvRf_13_2, pvRf_17_0, pvRf_17_2, pvRf_20_0, pvRf_20_1, pvRf_20_2, pvRf_24_0, pvRf_24_1, pvRf_24_2, pvRf_28_0, pvRf_28_1, pvRf_28_2, pvRf_28_3, pvRf_33_0, pvRf_33_1, pvRf_36_0, pvRf_36_1, pvRf_39_0, pvRf_39_1, pvRf_39_2, pvRf_39_5, pvRf_39_6, pvRf_39_9, pvRf_39_13, pvRf_39_15, pvRf_39_16, pvRf_39_17, pvRf_39_19, pvRf_39_20, pvRf_39_22, pvRf_39_23, pvRf_39_24, pvRf_39_25, pvRf_39_29, pvRf_39_30, pvE_irem, pvE_if_eq, pvE_idiv, pvE_icmp_ne, pvE_iload_n1, pvE_goto, pvE_iastore, pvAI, pvE_iaload, pvE_if_lt, pvE_iadd, pvE_iinc, pvIc_s, pvE_return, bX10_init_0, uX10_init_0, bX10_init_163, uX10_init_163, bX10_init_177, uX10_init_177, bX10_init_220, uX10_init_220, bX10_init_224, uX10_init_224, bX10_init_225, uX10_init_225, bX10_init_240, uX10_init_240, bX10_init_241, uX10_init_241, bX10_init_249, uX10_init_249, pvMk_t, pvMk_f, pvMk_n, pvRecv_r, pvUp_nl, pvUp_same, pvUp_ap, pvSt_ap, pvX_c, pvX_ms, pvX_mn, pvE_nil, pvEn_i, pvEn_r, pvEn_l, pvEn_0, pvEn_s, pvRt, pvRv, pvTh, pvKc, pvGo, pvTgt, Int.toNat_natCast, false_and, and_false, true_and, and_true, if_true, if_false, reduceIte, reduceCtorEq, forall_const, false_or, or_false, true_or, or_true, ne_eq, not_true_eq_false, not_false_eq_true, implies_true, false_implies, Nat.reduceAdd, Nat.reduceSub, Nat.reduceMul, Nat.reduceEqDiff, Nat.reduceLT, Nat.reduceLeDiff, Int.reduceAdd, Int.reduceSub, Int.reduceMul, Int.reduceNeg, Int.reduceToNat, Int.reduceLE, Int.reduceLT, Int.reduceEq, Int.reduceNe, and_self]
  (repeat' first | with_reducible apply And.intro | with_reducible intro _)
  all_goals first
    | omega
    | (rename frF [40] [] z _ => f1
       rename frF [40] [] _ _ => f2
       refine ok_new_loop hc 216 0 _ rfl (fun w hw => absurd hw (Nat.not_lt_zero _)) (fun z' f s => fin z' (frF_t (frF_t (frF_t frF_0 f1 (by simp) (by simp)) f2 (by simp) (by simp)) f (by simp) (by simp)) (fun s9 hs9 => ?_) s)
       have e40 : z'.1 40 = _ := f.1 40 (by decide)
       rw [e40]
       rcases (show s9 = 0 ∨ s9 = 1 by omega) with rfl | rfl
       · refine ⟨?_, fun j h1 h2 => ?_⟩
         · have q := (by assumption : ∀ j : Nat, ¬ (163 * (1 : Int) ≤ j ∧ (j : Int) < 163 * 1 + 163) → _) (163 * (0 : Int)).toNat (by omega)
           rw [q]; assumption
         · have q := (by assumption : ∀ j : Nat, ¬ (163 * (1 : Int) ≤ j ∧ (j : Int) < 163 * 1 + 163) → _) j (by omega)
           rw [q]; apply (by assumption : ∀ j : Nat, 163 * (0 : Int) < j → (j : Int) < 163 * 0 + 163 → _) <;> omega
       · refine ⟨by assumption, fun j h1 h2 => ?_⟩
         apply (by assumption : ∀ j : Nat, 163 * (1 : Int) < j → (j : Int) < 163 * 1 + 163 → _) <;> omega)
