theorem smN_p {c : Nat → Int} {D : Nat} (hD : D ≤ 5) {k : Nat} (hk : k < 10) (h0 : ∀ i, i < 3456 → 0 ≤ c i) (h1 : smN c (fun _ => 1) 3456 ≤ 15 ^ k) : ∀ i, i < 3456 → 0 ≤ c i ∧ c i ≤ 576650390625 := by
  have h2 : (15 : Int) ^ k ≤ 15 ^ 10 := by exact_mod_cast Nat.pow_le_pow_right (n := 15) (by decide) (by omega)
  have h3 : (15 : Int) ^ 10 = 576650390625 := by decide
  intro i hi
  have := (smN_le (c := c) 3456 h0).2 i hi
  have := h0 i hi
  omega
def C_X8_readEvent : pvC
  | [.inr (.inr (.inl id)), .inr (.inr (.inl p)), .inl l], z, Q => id = 33 ∧ ∃ A : Aut, (psS z p A ∧ (0 ≤ l ∧ l ≤ 4) ∧ ∀ i, i < 3456 → 0 ≤ z.2.1 34 i ∧ z.2.1 34 i ≤ 576650390625) ∧
      ∀ z' : pvM, frF [] [34, 35] z z' → (∀ W : Int → Int, smN (z'.2.1 34) W 3456 = smN (z.2.1 34) (fun x => sdK (fun a d => W (nxW A x a d)) (l.toNat + 1)) 3456) → (∀ i, i < 3456 → 0 ≤ z'.2.1 34 i) → Q (.inl none) z'
  | _, _, _ => False
def bX8_readEvent : Nat → List (Instr × Nat)
  | 0 => [(.iconst 0, 1), (.istore_n 3, 1)]
  | 2 => [(.iload_n 3, 1), (.sipush 3456, 3), (.if_icmp .ge 16, 3), (.aload_n 0, 1), (.getfield 17, 3), (.iload_n 3, 1), (.lconst 0, 1), (.lastore, 1), (.iinc 3 1, 3), (.goto (-17), 3)]
  | 22 => [(.iconst 0, 1), (.istore_n 3, 1)]
  | 24 => [(.iload_n 3, 1), (.sipush 3456, 3), (.if_icmp .ge 27, 3), (.aload_n 0, 1), (.getfield 13, 3), (.iload_n 3, 1), (.laload, 1), (.lconst 0, 1), (.lcmp, 1), (.ifCond .eq 10, 3), (.aload_n 0, 1), (.aload_n 1, 1), (.iload_n 3, 1), (.iload_n 2, 1), (.invokevirtual 39, 3)]
  | 49 => [(.iinc 3 1, 3), (.goto (-28), 3)]
  | 55 => [(.aload_n 0, 1), (.getfield 17, 3), (.iconst 0, 1), (.aload_n 0, 1), (.getfield 13, 3), (.iconst 0, 1), (.sipush 3456, 3), (.invokestatic 43, 3), (.return_, 1)]
  | _ => []
def uX8_readEvent : Nat → Option (List Bool)
  | 2 => some [true, true, true, true]
  | 24 => some [true, true, true, true]
  | _ => none
def aX8_readEvent : pvCa
  | 39 => some (4, false, 7, 0, C_X8_spread)
  | _ => none
theorem bX8_readEvent_0 : bX8_readEvent 0 = [(.iconst 0, 1), (.istore_n 3, 1)] := rfl
theorem uX8_readEvent_0 : uX8_readEvent 0 = none := rfl
theorem bX8_readEvent_2 : bX8_readEvent 2 = [(.iload_n 3, 1), (.sipush 3456, 3), (.if_icmp .ge 16, 3), (.aload_n 0, 1), (.getfield 17, 3), (.iload_n 3, 1), (.lconst 0, 1), (.lastore, 1), (.iinc 3 1, 3), (.goto (-17), 3)] := rfl
theorem uX8_readEvent_2 : uX8_readEvent 2 = some [true, true, true, true] := rfl
theorem bX8_readEvent_22 : bX8_readEvent 22 = [(.iconst 0, 1), (.istore_n 3, 1)] := rfl
theorem uX8_readEvent_22 : uX8_readEvent 22 = none := rfl
theorem bX8_readEvent_24 : bX8_readEvent 24 = [(.iload_n 3, 1), (.sipush 3456, 3), (.if_icmp .ge 27, 3), (.aload_n 0, 1), (.getfield 13, 3), (.iload_n 3, 1), (.laload, 1), (.lconst 0, 1), (.lcmp, 1), (.ifCond .eq 10, 3), (.aload_n 0, 1), (.aload_n 1, 1), (.iload_n 3, 1), (.iload_n 2, 1), (.invokevirtual 39, 3)] := rfl
theorem uX8_readEvent_24 : uX8_readEvent 24 = some [true, true, true, true] := rfl
theorem bX8_readEvent_49 : bX8_readEvent 49 = [(.iinc 3 1, 3), (.goto (-28), 3)] := rfl
theorem uX8_readEvent_49 : uX8_readEvent 49 = none := rfl
theorem bX8_readEvent_55 : bX8_readEvent 55 = [(.aload_n 0, 1), (.getfield 17, 3), (.iconst 0, 1), (.aload_n 0, 1), (.getfield 13, 3), (.iconst 0, 1), (.sipush 3456, 3), (.invokestatic 43, 3), (.return_, 1)] := rfl
theorem uX8_readEvent_55 : uX8_readEvent 55 = none := rfl
theorem aX8_readEvent_39 : aX8_readEvent 39 = some (4, false, 7, 0, C_X8_spread) := rfl
set_option maxRecDepth 100000 in
set_option maxHeartbeats 4000000 in
theorem okX8_readEvent : pvOkM fX8 aX8_readEvent kX8 eX8 none bX8_readEvent uX8_readEvent 4 C_X8_readEvent := by
  intro Q SW hc as z h hS hz
  unfold C_X8_readEvent at h
  split at h
  · rename_i id p l
    obtain ⟨rfl, A, ⟨hA, hl, hb⟩, h2⟩ := h
    obtain ⟨l, rfl⟩ : ∃ n : Nat, l = n := ⟨l.toNat, by omega⟩
    rw [Int.toNat_natCast] at h2
    have hid1 := hA.1
    have hshp := pvSh_ps hA.1
    refine ⟨Nat.le_of_ble_eq_true rfl, ?_⟩
    have pass : ∀ (m i : Nat) (z' : pvM), i + m = 3456 → frF [] [35] z z' → (∀ W : Int → Int, smN (z'.2.1 35) W 3456 = smN (z.2.1 34) (fun x => sdK (fun a d => W (nxW A x a d)) (l + 1)) i) → (∀ i, i < 3456 → 0 ≤ z'.2.1 35 i) →
        SW 24 [some (vR 33), some (vR p), some (vI (l : Int)), some (vI (i : Int))] z' := by
      intro m
      induction m using Nat.strongRecOn with
      | _ m ih =>
        intro i z' hi f1 o1 o2
        refine hc 20 _ _ _ fun _ _ => ?_
        simp only [pvSt1]
        have e34 : z'.2.1 34 = z.2.1 34 := f1.2.1 34 (by simp)
        by_cases hi2 : 3456 ≤ i
        · have ei : i = 3456 := by omega
          subst ei
          have q9 : ∀ G : Nat → Int, (∀ k, k < 3456 → G k = z'.2.1 35 k) → Q (.inl none) (z'.1, pvSt z'.2.1 34 G, z'.2.2) := fun G hG => h2 (z'.1, pvSt z'.2.1 34 G, z'.2.2) ⟨f1.1, fun id hid => by
              simp at hid
              show pvSt z'.2.1 34 _ id = _
              rw [pvSt_ne hid.1]
              exact f1.2.1 id (by simp [hid]), f1.2.2⟩ (fun W => by
              rw [← o1 W]
              refine smN_e 3456 fun j hj => ⟨?_, rfl⟩
              exact (pvSt_ap (f := z'.2.1) (i := 34) (g := G)).trans ((if_pos rfl).trans (hG j hj))) (fun j hj => by
              have e := (pvSt_ap (f := z'.2.1) (i := 34) (g := G) (a := 34) (b := j)).trans ((if_pos rfl).trans (hG j hj))
              have := o2 j hj
              exact Int.le_trans this (Int.le_of_eq e.symm))
          simp only [pvE_iconst, pvE_istore_n3, pvS1, List.length_cons, List.length_nil, pvClr_i, pvClr_r, pvClr_l, pvClr_d, pvClr_f, pvClr_n, pvE_iload_n3, pvLI_s, pvLd, pvE_sipush, pvE_icmp_ge, pvE_aload_n0, pvLA_s, pvE_getfield, pvGf_0, pvGf_1, pvGf_2, fX8_17, pvSh_0, pvSh_1, pvSh_2, pvSh_3, pvSh_4, pvSh_5, pvSh_6, pvSh_7, pvSh_8, pvSh_9, pvSh_10, pvSh_11, pvSh_12, pvSh_13, pvSh_14, pvSh_15, pvSh_16, pvSh_17, pvSh_18, pvSh_19, pvSh_20, pvSh_21, pvSh_22, pvSh_23, pvSh_24, pvSh_25, pvSh_26, pvSh_27, pvSh_28, pvSh_29, pvSh_30, pvSh_31, pvSh_32, pvSh_33, pvSh_34, pvSh_35, pvSh_36, pvSh_37, pvSh_38, pvRf_0_0, pvRf_0_1, pvRf_0_2, pvRf_0_3, pvRf_0_4, pvRf_0_5, pvRf_0_6, pvRf_0_7, pvRf_0_8, pvRf_0_9, pvRf_0_10, pvRf_1_0, pvRf_3_0, pvRf_5_0, pvRf_5_1, pvRf_5_2, pvRf_9_0, pvRf_9_1, pvRf_9_2, pvRf_13_0, pvRf_13_1, pvRf_13_2, pvRf_17_0, pvRf_17_2, pvRf_20_0, pvRf_20_1, pvRf_20_2, pvRf_24_0, pvRf_24_1, pvRf_24_2, pvRf_28_0, pvRf_28_1, pvRf_28_2, pvRf_28_3, pvRf_33_0, pvRf_33_1, pvRf_36_0, pvRf_36_1, pvE_lconst0, pvE_lastore, pvAL, pvE_iinc, pvIc_s, pvE_goto, fX8_13, pvE_laload, pvE_lcmp, pvE_if_eq, pvE_aload_n1, pvE_iload_n2, pvE_invokevirtual, pvC1_s, pvC2_s, pvAf_v, pvAf_x, pvPop, pvCs, pvCat, pvPush, aX8_readEvent_39, pvE_copy_l (h0 := eX8_43), pvAI, pvE_return, bX8_readEvent_0, uX8_readEvent_0, bX8_readEvent_2, uX8_readEvent_2, bX8_readEvent_22, uX8_readEvent_22, bX8_readEvent_24, uX8_readEvent_24, bX8_readEvent_49, uX8_readEvent_49, bX8_readEvent_55, uX8_readEvent_55, pvMk_t, pvMk_f, pvMk_n, pvRtG, pvRecv_r, pvUp_nl, pvUp_same, pvUp_ap, pvSt_ap, pvX_c, pvX_ms, pvX_mn, pvE_nil, pvEn_i, pvEn_r, pvEn_l, pvEn_0, pvEn_s, pvRt, pvRv, pvTh, pvKc, pvGo, pvTgt, Int.toNat_natCast, false_and, and_false, true_and, and_true, if_true, if_false, reduceIte, reduceCtorEq, forall_const, false_or, or_false, true_or, or_true, ne_eq, not_true_eq_false, not_false_eq_true, implies_true, false_implies, Nat.reduceAdd, Nat.reduceSub, Nat.reduceMul, Nat.reduceEqDiff, Nat.reduceLT, Nat.reduceLeDiff, Int.reduceAdd, Int.reduceSub, Int.reduceMul, Int.reduceNeg, Int.reduceToNat, Int.reduceLE, Int.reduceLT, Int.reduceEq, Int.reduceNe, and_self]
          (repeat' first | with_reducible apply And.intro | with_reducible intro _)
          all_goals first
            | omega
            | exact q9 _ (fun k hk => by rw [if_pos ⟨Nat.zero_le _, hk⟩]; rw [Nat.sub_zero, Nat.zero_add])
        · have hbi := hb i (by omega)
          rw [← e34] at hbi
          have hA' := psS_m hA f1 (by simp)
          have q9 : z'.2.1 34 i = 0 → SW 24 [some (vR 33), some (vR p), some (vI (l : Int)), some (vI ((i : Int) + 1))] z' := fun e0 => ih (m - 1) (by omega) (i + 1) z' (by omega) f1 (fun W => by
            rw [o1 W]
            show _ = smN _ _ i + _ * _
            rw [← e34, e0, Int.zero_mul]
            exact (Int.add_zero _).symm) o2
          have q8 : ∀ z'' : pvM, frF [] [35] z' z'' → (∀ W : Int → Int, smN (z''.2.1 35) W 3456 = smN (z'.2.1 35) W 3456 + z'.2.1 34 i * sdK (fun a d => W (nxW A (i : Int) a d)) (l + 1)) → (0 ≤ z'.2.1 34 i → (∀ i, i < 3456 → 0 ≤ z'.2.1 35 i) → ∀ i, i < 3456 → 0 ≤ z''.2.1 35 i) → SW 24 [some (vR 33), some (vR p), some (vI (l : Int)), some (vI ((i : Int) + 1))] z'' := fun z'' f2 p1 p2 => ih (m - 1) (by omega) (i + 1) z'' (by omega) (frF_t f1 f2 (by simp) (by simp)) (fun W => by
            rw [p1 W, o1 W, e34]
            rfl) (p2 hbi.1 o2)
          simp only [C_X8_spread, pvE_iconst, pvE_istore_n3, pvS1, List.length_cons, List.length_nil, pvClr_i, pvClr_r, pvClr_l, pvClr_d, pvClr_f, pvClr_n, pvE_iload_n3, pvLI_s, pvLd, pvE_sipush, pvE_icmp_ge, pvE_aload_n0, pvLA_s, pvE_getfield, pvGf_0, pvGf_1, pvGf_2, fX8_17, pvSh_0, pvSh_1, pvSh_2, pvSh_3, pvSh_4, pvSh_5, pvSh_6, pvSh_7, pvSh_8, pvSh_9, pvSh_10, pvSh_11, pvSh_12, pvSh_13, pvSh_14, pvSh_15, pvSh_16, pvSh_17, pvSh_18, pvSh_19, pvSh_20, pvSh_21, pvSh_22, pvSh_23, pvSh_24, pvSh_25, pvSh_26, pvSh_27, pvSh_28, pvSh_29, pvSh_30, pvSh_31, pvSh_32, pvSh_33, pvSh_34, pvSh_35, pvSh_36, pvSh_37, pvSh_38, pvRf_0_0, pvRf_0_1, pvRf_0_2, pvRf_0_3, pvRf_0_4, pvRf_0_5, pvRf_0_6, pvRf_0_7, pvRf_0_8, pvRf_0_9, pvRf_0_10, pvRf_1_0, pvRf_3_0, pvRf_5_0, pvRf_5_1, pvRf_5_2, pvRf_9_0, pvRf_9_1, pvRf_9_2, pvRf_13_0, pvRf_13_1, pvRf_13_2, pvRf_17_0, pvRf_17_2, pvRf_20_0, pvRf_20_1, pvRf_20_2, pvRf_24_0, pvRf_24_1, pvRf_24_2, pvRf_28_0, pvRf_28_1, pvRf_28_2, pvRf_28_3, pvRf_33_0, pvRf_33_1, pvRf_36_0, pvRf_36_1, pvE_lconst0, pvE_lastore, pvAL, pvE_iinc, pvIc_s, pvE_goto, fX8_13, pvE_laload, pvE_lcmp, pvE_if_eq, pvE_aload_n1, pvE_iload_n2, pvE_invokevirtual, pvC1_s, pvC2_s, pvAf_v, pvAf_x, pvPop, pvCs, pvCat, pvPush, aX8_readEvent_39, pvE_copy_l (h0 := eX8_43), pvAI, pvE_return, bX8_readEvent_0, uX8_readEvent_0, bX8_readEvent_2, uX8_readEvent_2, bX8_readEvent_22, uX8_readEvent_22, bX8_readEvent_24, uX8_readEvent_24, bX8_readEvent_49, uX8_readEvent_49, bX8_readEvent_55, uX8_readEvent_55, pvMk_t, pvMk_f, pvMk_n, pvRtG, pvRecv_r, pvUp_nl, pvUp_same, pvUp_ap, pvSt_ap, pvX_c, pvX_ms, pvX_mn, pvE_nil, pvEn_i, pvEn_r, pvEn_l, pvEn_0, pvEn_s, pvRt, pvRv, pvTh, pvKc, pvGo, pvTgt, Int.toNat_natCast, false_and, and_false, true_and, and_true, if_true, if_false, reduceIte, reduceCtorEq, forall_const, false_or, or_false, true_or, or_true, ne_eq, not_true_eq_false, not_false_eq_true, implies_true, false_implies, Nat.reduceAdd, Nat.reduceSub, Nat.reduceMul, Nat.reduceEqDiff, Nat.reduceLT, Nat.reduceLeDiff, Int.reduceAdd, Int.reduceSub, Int.reduceMul, Int.reduceNeg, Int.reduceToNat, Int.reduceLE, Int.reduceLT, Int.reduceEq, Int.reduceNe, and_self]
          (repeat' first | with_reducible apply And.intro | with_reducible intro _)
          all_goals first
            | omega
            | (exact q9 (by omega))
            | skip
          refine ⟨A, ⟨hA', by omega, by omega⟩, fun z'' f2 p1 p2 => ⟨by omega, q8 z'' f2 p1 p2⟩⟩
    have clr : ∀ (m i : Nat) (z' : pvM), i + m = 3456 → frF [] [35] z z' → (∀ j, j < i → z'.2.1 35 j = 0) →
        SW 2 [some (vR 33), some (vR p), some (vI (l : Int)), some (vI (i : Int))] z' := by
      intro m
      induction m using Nat.strongRecOn with
      | _ m ih =>
        intro i z' hi f1 o1
        refine hc 20 _ _ _ fun _ _ => ?_
        simp only [pvSt1]
        simp only [pvE_iconst, pvE_istore_n3, pvS1, List.length_cons, List.length_nil, pvClr_i, pvClr_r, pvClr_l, pvClr_d, pvClr_f, pvClr_n, pvE_iload_n3, pvLI_s, pvLd, pvE_sipush, pvE_icmp_ge, pvE_aload_n0, pvLA_s, pvE_getfield, pvGf_0, pvGf_1, pvGf_2, fX8_17, pvSh_0, pvSh_1, pvSh_2, pvSh_3, pvSh_4, pvSh_5, pvSh_6, pvSh_7, pvSh_8, pvSh_9, pvSh_10, pvSh_11, pvSh_12, pvSh_13, pvSh_14, pvSh_15, pvSh_16, pvSh_17, pvSh_18, pvSh_19, pvSh_20, pvSh_21, pvSh_22, pvSh_23, pvSh_24, pvSh_25, pvSh_26, pvSh_27, pvSh_28, pvSh_29, pvSh_30, pvSh_31, pvSh_32, pvSh_33, pvSh_34, pvSh_35, pvSh_36, pvSh_37, pvSh_38, pvRf_0_0, pvRf_0_1, pvRf_0_2, pvRf_0_3, pvRf_0_4, pvRf_0_5, pvRf_0_6, pvRf_0_7, pvRf_0_8, pvRf_0_9, pvRf_0_10, pvRf_1_0, pvRf_3_0, pvRf_5_0, pvRf_5_1, pvRf_5_2, pvRf_9_0, pvRf_9_1, pvRf_9_2, pvRf_13_0, pvRf_13_1, pvRf_13_2, pvRf_17_0, pvRf_17_2, pvRf_20_0, pvRf_20_1, pvRf_20_2, pvRf_24_0, pvRf_24_1, pvRf_24_2, pvRf_28_0, pvRf_28_1, pvRf_28_2, pvRf_28_3, pvRf_33_0, pvRf_33_1, pvRf_36_0, pvRf_36_1, pvE_lconst0, pvE_lastore, pvAL, pvE_iinc, pvIc_s, pvE_goto, fX8_13, pvE_laload, pvE_lcmp, pvE_if_eq, pvE_aload_n1, pvE_iload_n2, pvE_invokevirtual, pvC1_s, pvC2_s, pvAf_v, pvAf_x, pvPop, pvCs, pvCat, pvPush, aX8_readEvent_39, pvE_copy_l (h0 := eX8_43), pvAI, pvE_return, bX8_readEvent_0, uX8_readEvent_0, bX8_readEvent_2, uX8_readEvent_2, bX8_readEvent_22, uX8_readEvent_22, bX8_readEvent_24, uX8_readEvent_24, bX8_readEvent_49, uX8_readEvent_49, bX8_readEvent_55, uX8_readEvent_55, pvMk_t, pvMk_f, pvMk_n, pvRtG, pvRecv_r, pvUp_nl, pvUp_same, pvUp_ap, pvSt_ap, pvX_c, pvX_ms, pvX_mn, pvE_nil, pvEn_i, pvEn_r, pvEn_l, pvEn_0, pvEn_s, pvRt, pvRv, pvTh, pvKc, pvGo, pvTgt, Int.toNat_natCast, false_and, and_false, true_and, and_true, if_true, if_false, reduceIte, reduceCtorEq, forall_const, false_or, or_false, true_or, or_true, ne_eq, not_true_eq_false, not_false_eq_true, implies_true, false_implies, Nat.reduceAdd, Nat.reduceSub, Nat.reduceMul, Nat.reduceEqDiff, Nat.reduceLT, Nat.reduceLeDiff, Int.reduceAdd, Int.reduceSub, Int.reduceMul, Int.reduceNeg, Int.reduceToNat, Int.reduceLE, Int.reduceLT, Int.reduceEq, Int.reduceNe, and_self]
        by_cases hi2 : 3456 ≤ i
        · have q9 := pass 3456 0 z' rfl f1 (fun W => by
            rw [smN_0 3456 (fun j hj => o1 j (by omega))]
            rfl) (fun j hj => by rw [o1 j (by omega)]; exact Int.le_refl _)
          (repeat' first | with_reducible apply And.intro | with_reducible intro _)
          all_goals first
            | omega
            | exact q9
        · have q9 := ih (m - 1) (by omega) (i + 1) (z'.1, pvUp z'.2.1 35 i 0, z'.2.2) (by omega) (by (repeat' first | assumption | exact frF_0 | (refine frF_u ?_ (by decide)) | (refine frF_s ?_ (by decide)) | (refine frF_l ?_ (by decide)))) (fun j hj => by
            show pvUp z'.2.1 35 i 0 35 j = 0
            simp only [pvUp_ap, true_and]
            split
            · rfl
            · exact o1 j (by omega))
          (repeat' first | with_reducible apply And.intro | with_reducible intro _)
          all_goals first
            | omega
            | exact q9
    refine hc 20 _ _ _ fun _ _ => ?_
    simp only [pvSt1]
    have q9 := clr 3456 0 z rfl frF_0 (fun j hj => absurd hj (Nat.not_lt_zero _))
    simp only [pvE_iconst, pvE_istore_n3, pvS1, List.length_cons, List.length_nil, pvClr_i, pvClr_r, pvClr_l, pvClr_d, pvClr_f, pvClr_n, pvE_iload_n3, pvLI_s, pvLd, pvE_sipush, pvE_icmp_ge, pvE_aload_n0, pvLA_s, pvE_getfield, pvGf_0, pvGf_1, pvGf_2, fX8_17, pvSh_0, pvSh_1, pvSh_2, pvSh_3, pvSh_4, pvSh_5, pvSh_6, pvSh_7, pvSh_8, pvSh_9, pvSh_10, pvSh_11, pvSh_12, pvSh_13, pvSh_14, pvSh_15, pvSh_16, pvSh_17, pvSh_18, pvSh_19, pvSh_20, pvSh_21, pvSh_22, pvSh_23, pvSh_24, pvSh_25, pvSh_26, pvSh_27, pvSh_28, pvSh_29, pvSh_30, pvSh_31, pvSh_32, pvSh_33, pvSh_34, pvSh_35, pvSh_36, pvSh_37, pvSh_38, pvRf_0_0, pvRf_0_1, pvRf_0_2, pvRf_0_3, pvRf_0_4, pvRf_0_5, pvRf_0_6, pvRf_0_7, pvRf_0_8, pvRf_0_9, pvRf_0_10, pvRf_1_0, pvRf_3_0, pvRf_5_0, pvRf_5_1, pvRf_5_2, pvRf_9_0, pvRf_9_1, pvRf_9_2, pvRf_13_0, pvRf_13_1, pvRf_13_2, pvRf_17_0, pvRf_17_2, pvRf_20_0, pvRf_20_1, pvRf_20_2, pvRf_24_0, pvRf_24_1, pvRf_24_2, pvRf_28_0, pvRf_28_1, pvRf_28_2, pvRf_28_3, pvRf_33_0, pvRf_33_1, pvRf_36_0, pvRf_36_1, pvE_lconst0, pvE_lastore, pvAL, pvE_iinc, pvIc_s, pvE_goto, fX8_13, pvE_laload, pvE_lcmp, pvE_if_eq, pvE_aload_n1, pvE_iload_n2, pvE_invokevirtual, pvC1_s, pvC2_s, pvAf_v, pvAf_x, pvPop, pvCs, pvCat, pvPush, aX8_readEvent_39, pvE_copy_l (h0 := eX8_43), pvAI, pvE_return, bX8_readEvent_0, uX8_readEvent_0, bX8_readEvent_2, uX8_readEvent_2, bX8_readEvent_22, uX8_readEvent_22, bX8_readEvent_24, uX8_readEvent_24, bX8_readEvent_49, uX8_readEvent_49, bX8_readEvent_55, uX8_readEvent_55, pvMk_t, pvMk_f, pvMk_n, pvRtG, pvRecv_r, pvUp_nl, pvUp_same, pvUp_ap, pvSt_ap, pvX_c, pvX_ms, pvX_mn, pvE_nil, pvEn_i, pvEn_r, pvEn_l, pvEn_0, pvEn_s, pvRt, pvRv, pvTh, pvKc, pvGo, pvTgt, Int.toNat_natCast, false_and, and_false, true_and, and_true, if_true, if_false, reduceIte, reduceCtorEq, forall_const, false_or, or_false, true_or, or_true, ne_eq, not_true_eq_false, not_false_eq_true, implies_true, false_implies, Nat.reduceAdd, Nat.reduceSub, Nat.reduceMul, Nat.reduceEqDiff, Nat.reduceLT, Nat.reduceLeDiff, Int.reduceAdd, Int.reduceSub, Int.reduceMul, Int.reduceNeg, Int.reduceToNat, Int.reduceLE, Int.reduceLT, Int.reduceEq, Int.reduceNe, and_self]
    (repeat' first | with_reducible apply And.intro | with_reducible intro _)
    all_goals first
      | omega
      | exact q9
  · exact h.elim
def C_X8_countAll : pvC
  | [.inl e], z, Q => (0 ≤ e ∧ e ≤ 10) ∧ Q (.inl (some (vL (15 ^ e.toNat)))) z
  | _, _, _ => False
def bX8_countAll : Nat → List (Instr × Nat)
  | 0 => [(.lconst 1, 1), (.lstore_n 1, 1), (.iconst 0, 1), (.istore_n 3, 1)]
  | 4 => [(.iload_n 3, 1), (.iload_n 0, 1), (.if_icmp .ge 15, 3), (.lload_n 1, 1), (.ldc2_w 20, 3), (.lmul, 1), (.lstore_n 1, 1), (.iinc 3 1, 3), (.goto (-14), 3)]
  | 21 => [(.lload_n 1, 1), (.lreturn, 1)]
  | _ => []
def uX8_countAll : Nat → Option (List Bool)
  | 4 => some [true, true, false, true]
  | _ => none
def aX8_countAll : pvCa
  | _ => none
theorem bX8_countAll_0 : bX8_countAll 0 = [(.lconst 1, 1), (.lstore_n 1, 1), (.iconst 0, 1), (.istore_n 3, 1)] := rfl
theorem uX8_countAll_0 : uX8_countAll 0 = none := rfl
theorem bX8_countAll_4 : bX8_countAll 4 = [(.iload_n 3, 1), (.iload_n 0, 1), (.if_icmp .ge 15, 3), (.lload_n 1, 1), (.ldc2_w 20, 3), (.lmul, 1), (.lstore_n 1, 1), (.iinc 3 1, 3), (.goto (-14), 3)] := rfl
theorem uX8_countAll_4 : uX8_countAll 4 = some [true, true, false, true] := rfl
theorem bX8_countAll_21 : bX8_countAll 21 = [(.lload_n 1, 1), (.lreturn, 1)] := rfl
theorem uX8_countAll_21 : uX8_countAll 21 = none := rfl
set_option maxRecDepth 100000 in
set_option maxHeartbeats 4000000 in
theorem okX8_countAll : pvOkM fX8 aX8_countAll kX8 eX8 (some .long) bX8_countAll uX8_countAll 4 C_X8_countAll := by
  intro Q SW hc as z h hS hz
  unfold C_X8_countAll at h
  split at h
  · rename_i e
    obtain ⟨he, h2⟩ := h
    obtain ⟨e, rfl⟩ : ∃ n : Nat, e = n := ⟨e.toNat, by omega⟩
    rw [Int.toNat_natCast] at h2
    refine ⟨Nat.le_of_ble_eq_true rfl, ?_⟩
    have loop : ∀ (m k : Nat) (w : Int), k + m = e → w = 15 ^ k → SW 4 [some (vI (e : Int)), some (vL w), none, some (vI (k : Int))] z := by
      intro m
      induction m using Nat.strongRecOn with
      | _ m ih =>
        intro k w hk hw
        refine hc 20 _ _ _ fun _ _ => ?_
        simp only [pvSt1]
        simp only [pvE_lconst1, pvE_lstore_n1, pvS2, List.length_cons, List.length_nil, pvClr_i, pvClr_r, pvClr_l, pvClr_d, pvClr_f, pvClr_n, pvE_iconst, pvE_istore_n3, pvS1, pvE_iload_n3, pvLI_s, pvLd, pvE_iload_n0, pvE_icmp_ge, pvE_lload_n1, pvLL_s, pvE_ldc2_w (h0 := kX8_20), pvE_lmul, pvE_iinc, pvIc_s, pvE_goto, pvE_lreturn, bX8_countAll_0, uX8_countAll_0, bX8_countAll_4, uX8_countAll_4, bX8_countAll_21, uX8_countAll_21, pvMk_t, pvMk_f, pvMk_n, pvRtG, pvRecv_r, pvUp_nl, pvUp_same, pvUp_ap, pvSt_ap, pvX_c, pvX_ms, pvX_mn, pvE_nil, pvEn_i, pvEn_r, pvEn_l, pvEn_0, pvEn_s, pvRt, pvRv, pvTh, pvKc, pvGo, pvTgt, Int.toNat_natCast, false_and, and_false, true_and, and_true, if_true, if_false, reduceIte, reduceCtorEq, forall_const, false_or, or_false, true_or, or_true, ne_eq, not_true_eq_false, not_false_eq_true, implies_true, false_implies, Nat.reduceAdd, Nat.reduceSub, Nat.reduceMul, Nat.reduceEqDiff, Nat.reduceLT, Nat.reduceLeDiff, Int.reduceAdd, Int.reduceSub, Int.reduceMul, Int.reduceNeg, Int.reduceToNat, Int.reduceLE, Int.reduceLT, Int.reduceEq, Int.reduceNe, and_self]
        by_cases hk2 : e ≤ k
        · have ek : k = e := by omega
          subst ek
          rw [← hw] at h2
          (repeat' first | with_reducible apply And.intro | with_reducible intro _)
          all_goals first
            | omega
            | exact h2
        · have q9 := ih (m - 1) (by omega) (k + 1) (w * 15) (by omega) (by rw [hw, Int.pow_succ])
          (repeat' first | with_reducible apply And.intro | with_reducible intro _)
          all_goals first
            | omega
            | exact q9
    refine hc 20 _ _ _ fun _ _ => ?_
    simp only [pvSt1]
    have q9 := loop e 0 1 (by omega) rfl
    simp only [pvE_lconst1, pvE_lstore_n1, pvS2, List.length_cons, List.length_nil, pvClr_i, pvClr_r, pvClr_l, pvClr_d, pvClr_f, pvClr_n, pvE_iconst, pvE_istore_n3, pvS1, pvE_iload_n3, pvLI_s, pvLd, pvE_iload_n0, pvE_icmp_ge, pvE_lload_n1, pvLL_s, pvE_ldc2_w (h0 := kX8_20), pvE_lmul, pvE_iinc, pvIc_s, pvE_goto, pvE_lreturn, bX8_countAll_0, uX8_countAll_0, bX8_countAll_4, uX8_countAll_4, bX8_countAll_21, uX8_countAll_21, pvMk_t, pvMk_f, pvMk_n, pvRtG, pvRecv_r, pvUp_nl, pvUp_same, pvUp_ap, pvSt_ap, pvX_c, pvX_ms, pvX_mn, pvE_nil, pvEn_i, pvEn_r, pvEn_l, pvEn_0, pvEn_s, pvRt, pvRv, pvTh, pvKc, pvGo, pvTgt, Int.toNat_natCast, false_and, and_false, true_and, and_true, if_true, if_false, reduceIte, reduceCtorEq, forall_const, false_or, or_false, true_or, or_true, ne_eq, not_true_eq_false, not_false_eq_true, implies_true, false_implies, Nat.reduceAdd, Nat.reduceSub, Nat.reduceMul, Nat.reduceEqDiff, Nat.reduceLT, Nat.reduceLeDiff, Int.reduceAdd, Int.reduceSub, Int.reduceMul, Int.reduceNeg, Int.reduceToNat, Int.reduceLE, Int.reduceLT, Int.reduceEq, Int.reduceNe, and_self]
    (repeat' first | with_reducible apply And.intro | with_reducible intro _)
    all_goals first
      | omega
      | exact q9
  · exact h.elim
def C_X8_count : pvC
  | [.inr (.inr (.inl id)), .inr (.inr (.inl p)), .inl e, .inl l], z, Q => id = 33 ∧ ∃ A : Aut, (psS z p A ∧ (0 ≤ e ∧ e ≤ 10) ∧ 0 ≤ l ∧ l ≤ 4) ∧
      ∀ z' : pvM, frF [] [34, 35] z z' → Q (.inl (some (vL (wdF A (l.toNat + 1) e.toNat (3440 + A.2.1))))) z'
  | _, _, _ => False
def bX8_count : Nat → List (Instr × Nat)
  | 0 => [(.iconst 0, 1), (.istore 4, 2)]
  | 3 => [(.iload 4, 2), (.sipush 3456, 3), (.if_icmp .ge 17, 3), (.aload_n 0, 1), (.getfield 13, 3), (.iload 4, 2), (.lconst 0, 1), (.lastore, 1), (.iinc 4 1, 3), (.goto (-19), 3)]
  | 25 => [(.aload_n 0, 1), (.getfield 13, 3), (.sipush 3440, 3), (.aload_n 1, 1), (.getfield 22, 3), (.iadd, 1), (.lconst 1, 1), (.invokestatic 28, 3), (.iconst 0, 1), (.istore 4, 2)]
  | 44 => [(.iload 4, 2), (.iload_n 2, 1), (.if_icmp .ge 15, 3), (.aload_n 0, 1), (.aload_n 1, 1), (.iload_n 3, 1), (.invokevirtual 32, 3), (.iinc 4 1, 3), (.goto (-15), 3)]
  | 62 => [(.lconst 0, 1), (.lstore 4, 2), (.iconst 0, 1), (.istore 6, 2)]
  | 68 => [(.iload 6, 2), (.sipush 3456, 3), (.if_icmp .ge 34, 3), (.iload 6, 2), (.bipush 16, 2), (.irem, 1), (.aload_n 1, 1), (.getfield 36, 3), (.iand, 1), (.ifCond .eq 15, 3), (.lload 4, 2), (.aload_n 0, 1), (.getfield 13, 3), (.iload 6, 2), (.laload, 1), (.ladd, 1), (.lstore 4, 2)]
  | 101 => [(.iinc 6 1, 3), (.goto (-36), 3)]
  | 107 => [(.lload 4, 2), (.lreturn, 1)]
  | _ => []
def uX8_count : Nat → Option (List Bool)
  | 3 => some [true, true, true, true, true, false, false]
  | 44 => some [true, true, true, true, true, false, false]
  | 68 => some [true, true, false, false, true, false, true]
  | _ => none
def aX8_count : pvCa
  | 28 => some (3, true, 0, 0, C_X8_addTo)
  | 32 => some (3, false, 7, 0, C_X8_readEvent)
  | _ => none
theorem bX8_count_0 : bX8_count 0 = [(.iconst 0, 1), (.istore 4, 2)] := rfl
theorem uX8_count_0 : uX8_count 0 = none := rfl
theorem bX8_count_3 : bX8_count 3 = [(.iload 4, 2), (.sipush 3456, 3), (.if_icmp .ge 17, 3), (.aload_n 0, 1), (.getfield 13, 3), (.iload 4, 2), (.lconst 0, 1), (.lastore, 1), (.iinc 4 1, 3), (.goto (-19), 3)] := rfl
theorem uX8_count_3 : uX8_count 3 = some [true, true, true, true, true, false, false] := rfl
theorem bX8_count_25 : bX8_count 25 = [(.aload_n 0, 1), (.getfield 13, 3), (.sipush 3440, 3), (.aload_n 1, 1), (.getfield 22, 3), (.iadd, 1), (.lconst 1, 1), (.invokestatic 28, 3), (.iconst 0, 1), (.istore 4, 2)] := rfl
theorem uX8_count_25 : uX8_count 25 = none := rfl
theorem bX8_count_44 : bX8_count 44 = [(.iload 4, 2), (.iload_n 2, 1), (.if_icmp .ge 15, 3), (.aload_n 0, 1), (.aload_n 1, 1), (.iload_n 3, 1), (.invokevirtual 32, 3), (.iinc 4 1, 3), (.goto (-15), 3)] := rfl
theorem uX8_count_44 : uX8_count 44 = some [true, true, true, true, true, false, false] := rfl
theorem bX8_count_62 : bX8_count 62 = [(.lconst 0, 1), (.lstore 4, 2), (.iconst 0, 1), (.istore 6, 2)] := rfl
theorem uX8_count_62 : uX8_count 62 = none := rfl
theorem bX8_count_68 : bX8_count 68 = [(.iload 6, 2), (.sipush 3456, 3), (.if_icmp .ge 34, 3), (.iload 6, 2), (.bipush 16, 2), (.irem, 1), (.aload_n 1, 1), (.getfield 36, 3), (.iand, 1), (.ifCond .eq 15, 3), (.lload 4, 2), (.aload_n 0, 1), (.getfield 13, 3), (.iload 6, 2), (.laload, 1), (.ladd, 1), (.lstore 4, 2)] := rfl
theorem uX8_count_68 : uX8_count 68 = some [true, true, false, false, true, false, true] := rfl
theorem bX8_count_101 : bX8_count 101 = [(.iinc 6 1, 3), (.goto (-36), 3)] := rfl
theorem uX8_count_101 : uX8_count 101 = none := rfl
theorem bX8_count_107 : bX8_count 107 = [(.lload 4, 2), (.lreturn, 1)] := rfl
theorem uX8_count_107 : uX8_count 107 = none := rfl
theorem aX8_count_28 : aX8_count 28 = some (3, true, 0, 0, C_X8_addTo) := rfl
theorem aX8_count_32 : aX8_count 32 = some (3, false, 7, 0, C_X8_readEvent) := rfl
set_option maxRecDepth 100000 in
set_option maxHeartbeats 4000000 in
theorem okX8_count : pvOkM fX8 aX8_count kX8 eX8 (some .long) bX8_count uX8_count 7 C_X8_count := by
  intro Q SW hc as z h hS hz
  unfold C_X8_count at h
  split at h
  · rename_i id p e l
    obtain ⟨rfl, A, ⟨hA, he, hl⟩, h2⟩ := h
    obtain ⟨l, rfl⟩ : ∃ n : Nat, l = n := ⟨l.toNat, by omega⟩
    obtain ⟨e, rfl⟩ : ∃ n : Nat, e = n := ⟨e.toNat, by omega⟩
    rw [Int.toNat_natCast, Int.toNat_natCast] at h2
    have hid1 := hA.1
    have hshp := pvSh_ps hA.1
    have wA := hA.2.2.2.2
    have w21 := wA.2.1
    refine ⟨Nat.le_of_ble_eq_true rfl, ?_⟩
    have add : ∀ (m i : Nat) (z' : pvM) (s : Int), i + m = 3456 → frF [] [34, 35] z z' → smN (z'.2.1 34) (wdF A (l + 1) 0) 3456 = wdF A (l + 1) e (3440 + A.2.1) → s = smN (z'.2.1 34) (wdF A (l + 1) 0) i →
        SW 68 [some (vR 33), some (vR p), none, none, some (vL s), none, some (vI (i : Int))] z' := by
      intro m
      induction m using Nat.strongRecOn with
      | _ m ih =>
        intro i z' s hi f1 o1 o2
        refine hc 20 _ _ _ fun _ _ => ?_
        simp only [pvSt1]
        have hA' := psS_m hA f1 (by simp)
        have e5 := hA'.2.2.2.1
        by_cases hi2 : 3456 ≤ i
        · have ei : i = 3456 := by omega
          subst ei
          have q9 := h2 z' f1
          rw [← o1, ← o2] at q9
          simp only [pvE_iconst, pvE_istore, pvS1, List.length_cons, List.length_nil, pvClr_i, pvClr_r, pvClr_l, pvClr_d, pvClr_f, pvClr_n, pvE_iload, pvLI_s, pvLd, pvE_sipush, pvE_icmp_ge, pvE_aload_n0, pvLA_s, pvE_getfield, pvGf_0, pvGf_1, pvGf_2, fX8_13, pvSh_0, pvSh_1, pvSh_2, pvSh_3, pvSh_4, pvSh_5, pvSh_6, pvSh_7, pvSh_8, pvSh_9, pvSh_10, pvSh_11, pvSh_12, pvSh_13, pvSh_14, pvSh_15, pvSh_16, pvSh_17, pvSh_18, pvSh_19, pvSh_20, pvSh_21, pvSh_22, pvSh_23, pvSh_24, pvSh_25, pvSh_26, pvSh_27, pvSh_28, pvSh_29, pvSh_30, pvSh_31, pvSh_32, pvSh_33, pvSh_34, pvSh_35, pvSh_36, pvSh_37, pvSh_38, pvRf_0_0, pvRf_0_1, pvRf_0_2, pvRf_0_3, pvRf_0_4, pvRf_0_5, pvRf_0_6, pvRf_0_7, pvRf_0_8, pvRf_0_9, pvRf_0_10, pvRf_1_0, pvRf_3_0, pvRf_5_0, pvRf_5_1, pvRf_5_2, pvRf_9_0, pvRf_9_1, pvRf_9_2, pvRf_13_0, pvRf_13_1, pvRf_13_2, pvRf_17_0, pvRf_17_2, pvRf_20_0, pvRf_20_1, pvRf_20_2, pvRf_24_0, pvRf_24_1, pvRf_24_2, pvRf_28_0, pvRf_28_1, pvRf_28_2, pvRf_28_3, pvRf_33_0, pvRf_33_1, pvRf_36_0, pvRf_36_1, pvE_lconst0, pvE_lastore, pvAL, pvE_iinc, pvIc_s, pvE_goto, pvE_aload_n1, fX8_22, pvE_iadd, pvE_lconst1, pvE_invokestatic (h0 := eX8_28), pvC1_s, pvC2_s, pvAf_v, pvAf_x, pvPop, pvCs, pvCat, pvPush, aX8_count_28, pvE_iload_n2, pvE_iload_n3, pvE_invokevirtual, aX8_count_32, pvE_lstore, pvS2, pvE_bipush, pvE_irem, fX8_36, pvE_iand, pvE_if_eq, pvE_lload, pvLL_s, pvE_laload, pvE_ladd, pvE_lreturn, bX8_count_0, uX8_count_0, bX8_count_3, uX8_count_3, bX8_count_25, uX8_count_25, bX8_count_44, uX8_count_44, bX8_count_62, uX8_count_62, bX8_count_68, uX8_count_68, bX8_count_101, uX8_count_101, bX8_count_107, uX8_count_107, pvMk_t, pvMk_f, pvMk_n, pvRtG, pvRecv_r, pvUp_nl, pvUp_same, pvUp_ap, pvSt_ap, pvX_c, pvX_ms, pvX_mn, pvE_nil, pvEn_i, pvEn_r, pvEn_l, pvEn_0, pvEn_s, pvRt, pvRv, pvTh, pvKc, pvGo, pvTgt, Int.toNat_natCast, false_and, and_false, true_and, and_true, if_true, if_false, reduceIte, reduceCtorEq, forall_const, false_or, or_false, true_or, or_true, ne_eq, not_true_eq_false, not_false_eq_true, implies_true, false_implies, Nat.reduceAdd, Nat.reduceSub, Nat.reduceMul, Nat.reduceEqDiff, Nat.reduceLT, Nat.reduceLeDiff, Int.reduceAdd, Int.reduceSub, Int.reduceMul, Int.reduceNeg, Int.reduceToNat, Int.reduceLE, Int.reduceLT, Int.reduceEq, Int.reduceNe, and_self]
          (repeat' first | with_reducible apply And.intro | with_reducible intro _)
          all_goals first
            | omega
            | exact q9
        · by_cases hb : pvAnd ((i : Int) % 16) A.2.2.1 = 0
          · have q9 := ih (m - 1) (by omega) (i + 1) z' s (by omega) f1 o1 (by
              rw [o2]
              show _ = smN _ _ i + _ * (if pvAnd ((i : Int) % 16) A.2.2.1 = 0 then 0 else 1)
              rw [if_pos hb, Int.mul_zero]
              exact (Int.add_zero _).symm)
            simp only [e5, pvE_iconst, pvE_istore, pvS1, List.length_cons, List.length_nil, pvClr_i, pvClr_r, pvClr_l, pvClr_d, pvClr_f, pvClr_n, pvE_iload, pvLI_s, pvLd, pvE_sipush, pvE_icmp_ge, pvE_aload_n0, pvLA_s, pvE_getfield, pvGf_0, pvGf_1, pvGf_2, fX8_13, pvSh_0, pvSh_1, pvSh_2, pvSh_3, pvSh_4, pvSh_5, pvSh_6, pvSh_7, pvSh_8, pvSh_9, pvSh_10, pvSh_11, pvSh_12, pvSh_13, pvSh_14, pvSh_15, pvSh_16, pvSh_17, pvSh_18, pvSh_19, pvSh_20, pvSh_21, pvSh_22, pvSh_23, pvSh_24, pvSh_25, pvSh_26, pvSh_27, pvSh_28, pvSh_29, pvSh_30, pvSh_31, pvSh_32, pvSh_33, pvSh_34, pvSh_35, pvSh_36, pvSh_37, pvSh_38, pvRf_0_0, pvRf_0_1, pvRf_0_2, pvRf_0_3, pvRf_0_4, pvRf_0_5, pvRf_0_6, pvRf_0_7, pvRf_0_8, pvRf_0_9, pvRf_0_10, pvRf_1_0, pvRf_3_0, pvRf_5_0, pvRf_5_1, pvRf_5_2, pvRf_9_0, pvRf_9_1, pvRf_9_2, pvRf_13_0, pvRf_13_1, pvRf_13_2, pvRf_17_0, pvRf_17_2, pvRf_20_0, pvRf_20_1, pvRf_20_2, pvRf_24_0, pvRf_24_1, pvRf_24_2, pvRf_28_0, pvRf_28_1, pvRf_28_2, pvRf_28_3, pvRf_33_0, pvRf_33_1, pvRf_36_0, pvRf_36_1, pvE_lconst0, pvE_lastore, pvAL, pvE_iinc, pvIc_s, pvE_goto, pvE_aload_n1, fX8_22, pvE_iadd, pvE_lconst1, pvE_invokestatic (h0 := eX8_28), pvC1_s, pvC2_s, pvAf_v, pvAf_x, pvPop, pvCs, pvCat, pvPush, aX8_count_28, pvE_iload_n2, pvE_iload_n3, pvE_invokevirtual, aX8_count_32, pvE_lstore, pvS2, pvE_bipush, pvE_irem, fX8_36, pvE_iand, pvE_if_eq, pvE_lload, pvLL_s, pvE_laload, pvE_ladd, pvE_lreturn, bX8_count_0, uX8_count_0, bX8_count_3, uX8_count_3, bX8_count_25, uX8_count_25, bX8_count_44, uX8_count_44, bX8_count_62, uX8_count_62, bX8_count_68, uX8_count_68, bX8_count_101, uX8_count_101, bX8_count_107, uX8_count_107, pvMk_t, pvMk_f, pvMk_n, pvRtG, pvRecv_r, pvUp_nl, pvUp_same, pvUp_ap, pvSt_ap, pvX_c, pvX_ms, pvX_mn, pvE_nil, pvEn_i, pvEn_r, pvEn_l, pvEn_0, pvEn_s, pvRt, pvRv, pvTh, pvKc, pvGo, pvTgt, Int.toNat_natCast, false_and, and_false, true_and, and_true, if_true, if_false, reduceIte, reduceCtorEq, forall_const, false_or, or_false, true_or, or_true, ne_eq, not_true_eq_false, not_false_eq_true, implies_true, false_implies, Nat.reduceAdd, Nat.reduceSub, Nat.reduceMul, Nat.reduceEqDiff, Nat.reduceLT, Nat.reduceLeDiff, Int.reduceAdd, Int.reduceSub, Int.reduceMul, Int.reduceNeg, Int.reduceToNat, Int.reduceLE, Int.reduceLT, Int.reduceEq, Int.reduceNe, and_self]
            (repeat' first | with_reducible apply And.intro | with_reducible intro _)
            all_goals first
              | omega
              | contradiction
              | exact q9
          · have q9 := ih (m - 1) (by omega) (i + 1) z' (s + z'.2.1 34 i) (by omega) f1 o1 (by
              rw [o2]
              show _ = smN _ _ i + _ * (if pvAnd ((i : Int) % 16) A.2.2.1 = 0 then 0 else 1)
              rw [if_neg hb, Int.mul_one])
            simp only [e5, pvE_iconst, pvE_istore, pvS1, List.length_cons, List.length_nil, pvClr_i, pvClr_r, pvClr_l, pvClr_d, pvClr_f, pvClr_n, pvE_iload, pvLI_s, pvLd, pvE_sipush, pvE_icmp_ge, pvE_aload_n0, pvLA_s, pvE_getfield, pvGf_0, pvGf_1, pvGf_2, fX8_13, pvSh_0, pvSh_1, pvSh_2, pvSh_3, pvSh_4, pvSh_5, pvSh_6, pvSh_7, pvSh_8, pvSh_9, pvSh_10, pvSh_11, pvSh_12, pvSh_13, pvSh_14, pvSh_15, pvSh_16, pvSh_17, pvSh_18, pvSh_19, pvSh_20, pvSh_21, pvSh_22, pvSh_23, pvSh_24, pvSh_25, pvSh_26, pvSh_27, pvSh_28, pvSh_29, pvSh_30, pvSh_31, pvSh_32, pvSh_33, pvSh_34, pvSh_35, pvSh_36, pvSh_37, pvSh_38, pvRf_0_0, pvRf_0_1, pvRf_0_2, pvRf_0_3, pvRf_0_4, pvRf_0_5, pvRf_0_6, pvRf_0_7, pvRf_0_8, pvRf_0_9, pvRf_0_10, pvRf_1_0, pvRf_3_0, pvRf_5_0, pvRf_5_1, pvRf_5_2, pvRf_9_0, pvRf_9_1, pvRf_9_2, pvRf_13_0, pvRf_13_1, pvRf_13_2, pvRf_17_0, pvRf_17_2, pvRf_20_0, pvRf_20_1, pvRf_20_2, pvRf_24_0, pvRf_24_1, pvRf_24_2, pvRf_28_0, pvRf_28_1, pvRf_28_2, pvRf_28_3, pvRf_33_0, pvRf_33_1, pvRf_36_0, pvRf_36_1, pvE_lconst0, pvE_lastore, pvAL, pvE_iinc, pvIc_s, pvE_goto, pvE_aload_n1, fX8_22, pvE_iadd, pvE_lconst1, pvE_invokestatic (h0 := eX8_28), pvC1_s, pvC2_s, pvAf_v, pvAf_x, pvPop, pvCs, pvCat, pvPush, aX8_count_28, pvE_iload_n2, pvE_iload_n3, pvE_invokevirtual, aX8_count_32, pvE_lstore, pvS2, pvE_bipush, pvE_irem, fX8_36, pvE_iand, pvE_if_eq, pvE_lload, pvLL_s, pvE_laload, pvE_ladd, pvE_lreturn, bX8_count_0, uX8_count_0, bX8_count_3, uX8_count_3, bX8_count_25, uX8_count_25, bX8_count_44, uX8_count_44, bX8_count_62, uX8_count_62, bX8_count_68, uX8_count_68, bX8_count_101, uX8_count_101, bX8_count_107, uX8_count_107, pvMk_t, pvMk_f, pvMk_n, pvRtG, pvRecv_r, pvUp_nl, pvUp_same, pvUp_ap, pvSt_ap, pvX_c, pvX_ms, pvX_mn, pvE_nil, pvEn_i, pvEn_r, pvEn_l, pvEn_0, pvEn_s, pvRt, pvRv, pvTh, pvKc, pvGo, pvTgt, Int.toNat_natCast, false_and, and_false, true_and, and_true, if_true, if_false, reduceIte, reduceCtorEq, forall_const, false_or, or_false, true_or, or_true, ne_eq, not_true_eq_false, not_false_eq_true, implies_true, false_implies, Nat.reduceAdd, Nat.reduceSub, Nat.reduceMul, Nat.reduceEqDiff, Nat.reduceLT, Nat.reduceLeDiff, Int.reduceAdd, Int.reduceSub, Int.reduceMul, Int.reduceNeg, Int.reduceToNat, Int.reduceLE, Int.reduceLT, Int.reduceEq, Int.reduceNe, and_self]
            (repeat' first | with_reducible apply And.intro | with_reducible intro _)
            all_goals first
              | omega
              | contradiction
              | exact q9
    have evs : ∀ (m k : Nat) (z' : pvM), k + m = e → frF [] [34, 35] z z' → smN (z'.2.1 34) (wdF A (l + 1) m) 3456 = wdF A (l + 1) e (3440 + A.2.1) → smN (z'.2.1 34) (fun _ => 1) 3456 ≤ 15 ^ k → (∀ i, i < 3456 → 0 ≤ z'.2.1 34 i) →
        SW 44 [some (vR 33), some (vR p), some (vI (e : Int)), some (vI (l : Int)), some (vI (k : Int)), none, none] z' := by
      intro m
      induction m with
      | zero =>
        intro k z' hk f1 o1 o2 o3
        refine hc 20 _ _ _ fun _ _ => ?_
        simp only [pvSt1]
        have q9 := add 3456 0 z' 0 rfl f1 o1 rfl
        simp only [pvE_iconst, pvE_istore, pvS1, List.length_cons, List.length_nil, pvClr_i, pvClr_r, pvClr_l, pvClr_d, pvClr_f, pvClr_n, pvE_iload, pvLI_s, pvLd, pvE_sipush, pvE_icmp_ge, pvE_aload_n0, pvLA_s, pvE_getfield, pvGf_0, pvGf_1, pvGf_2, fX8_13, pvSh_0, pvSh_1, pvSh_2, pvSh_3, pvSh_4, pvSh_5, pvSh_6, pvSh_7, pvSh_8, pvSh_9, pvSh_10, pvSh_11, pvSh_12, pvSh_13, pvSh_14, pvSh_15, pvSh_16, pvSh_17, pvSh_18, pvSh_19, pvSh_20, pvSh_21, pvSh_22, pvSh_23, pvSh_24, pvSh_25, pvSh_26, pvSh_27, pvSh_28, pvSh_29, pvSh_30, pvSh_31, pvSh_32, pvSh_33, pvSh_34, pvSh_35, pvSh_36, pvSh_37, pvSh_38, pvRf_0_0, pvRf_0_1, pvRf_0_2, pvRf_0_3, pvRf_0_4, pvRf_0_5, pvRf_0_6, pvRf_0_7, pvRf_0_8, pvRf_0_9, pvRf_0_10, pvRf_1_0, pvRf_3_0, pvRf_5_0, pvRf_5_1, pvRf_5_2, pvRf_9_0, pvRf_9_1, pvRf_9_2, pvRf_13_0, pvRf_13_1, pvRf_13_2, pvRf_17_0, pvRf_17_2, pvRf_20_0, pvRf_20_1, pvRf_20_2, pvRf_24_0, pvRf_24_1, pvRf_24_2, pvRf_28_0, pvRf_28_1, pvRf_28_2, pvRf_28_3, pvRf_33_0, pvRf_33_1, pvRf_36_0, pvRf_36_1, pvE_lconst0, pvE_lastore, pvAL, pvE_iinc, pvIc_s, pvE_goto, pvE_aload_n1, fX8_22, pvE_iadd, pvE_lconst1, pvE_invokestatic (h0 := eX8_28), pvC1_s, pvC2_s, pvAf_v, pvAf_x, pvPop, pvCs, pvCat, pvPush, aX8_count_28, pvE_iload_n2, pvE_iload_n3, pvE_invokevirtual, aX8_count_32, pvE_lstore, pvS2, pvE_bipush, pvE_irem, fX8_36, pvE_iand, pvE_if_eq, pvE_lload, pvLL_s, pvE_laload, pvE_ladd, pvE_lreturn, bX8_count_0, uX8_count_0, bX8_count_3, uX8_count_3, bX8_count_25, uX8_count_25, bX8_count_44, uX8_count_44, bX8_count_62, uX8_count_62, bX8_count_68, uX8_count_68, bX8_count_101, uX8_count_101, bX8_count_107, uX8_count_107, pvMk_t, pvMk_f, pvMk_n, pvRtG, pvRecv_r, pvUp_nl, pvUp_same, pvUp_ap, pvSt_ap, pvX_c, pvX_ms, pvX_mn, pvE_nil, pvEn_i, pvEn_r, pvEn_l, pvEn_0, pvEn_s, pvRt, pvRv, pvTh, pvKc, pvGo, pvTgt, Int.toNat_natCast, false_and, and_false, true_and, and_true, if_true, if_false, reduceIte, reduceCtorEq, forall_const, false_or, or_false, true_or, or_true, ne_eq, not_true_eq_false, not_false_eq_true, implies_true, false_implies, Nat.reduceAdd, Nat.reduceSub, Nat.reduceMul, Nat.reduceEqDiff, Nat.reduceLT, Nat.reduceLeDiff, Int.reduceAdd, Int.reduceSub, Int.reduceMul, Int.reduceNeg, Int.reduceToNat, Int.reduceLE, Int.reduceLT, Int.reduceEq, Int.reduceNe, and_self]
        (repeat' first | with_reducible apply And.intro | with_reducible intro _)
        all_goals first
          | omega
          | exact q9
      | succ m ih =>
        intro k z' hk f1 o1 o2 o3
        refine hc 20 _ _ _ fun _ _ => ?_
        simp only [pvSt1]
        have hA' := psS_m hA f1 (by simp)
        have q9 : ∀ z'' : pvM, frF [] [34, 35] z' z'' → (∀ W : Int → Int, smN (z''.2.1 34) W 3456 = smN (z'.2.1 34) (fun x => sdK (fun a d => W (nxW A x a d)) (l + 1)) 3456) → (∀ i, i < 3456 → 0 ≤ z''.2.1 34 i) → SW 44 [some (vR 33), some (vR p), some (vI (e : Int)), some (vI (l : Int)), some (vI ((k : Int) + 1)), none, none] z'' := fun z'' f2 p1 p2 => ih (k + 1) z'' (by omega) (frF_t f1 f2 (by simp) (by simp)) ((p1 _).trans o1) (by
          rw [p1 (fun _ => 1)]
          simp only [sdK_1]
          rw [smN_c]
          have h0 := (smN_le (c := z'.2.1 34) 3456 o3).1
          rw [Int.pow_succ, Int.mul_comm _ 15]
          exact Int.mul_le_mul (by omega) o2 h0 (by decide)) p2
        have hp := smN_p (D := 5) (by decide) (by omega) o3 o2
        simp only [C_X8_readEvent, pvE_iconst, pvE_istore, pvS1, List.length_cons, List.length_nil, pvClr_i, pvClr_r, pvClr_l, pvClr_d, pvClr_f, pvClr_n, pvE_iload, pvLI_s, pvLd, pvE_sipush, pvE_icmp_ge, pvE_aload_n0, pvLA_s, pvE_getfield, pvGf_0, pvGf_1, pvGf_2, fX8_13, pvSh_0, pvSh_1, pvSh_2, pvSh_3, pvSh_4, pvSh_5, pvSh_6, pvSh_7, pvSh_8, pvSh_9, pvSh_10, pvSh_11, pvSh_12, pvSh_13, pvSh_14, pvSh_15, pvSh_16, pvSh_17, pvSh_18, pvSh_19, pvSh_20, pvSh_21, pvSh_22, pvSh_23, pvSh_24, pvSh_25, pvSh_26, pvSh_27, pvSh_28, pvSh_29, pvSh_30, pvSh_31, pvSh_32, pvSh_33, pvSh_34, pvSh_35, pvSh_36, pvSh_37, pvSh_38, pvRf_0_0, pvRf_0_1, pvRf_0_2, pvRf_0_3, pvRf_0_4, pvRf_0_5, pvRf_0_6, pvRf_0_7, pvRf_0_8, pvRf_0_9, pvRf_0_10, pvRf_1_0, pvRf_3_0, pvRf_5_0, pvRf_5_1, pvRf_5_2, pvRf_9_0, pvRf_9_1, pvRf_9_2, pvRf_13_0, pvRf_13_1, pvRf_13_2, pvRf_17_0, pvRf_17_2, pvRf_20_0, pvRf_20_1, pvRf_20_2, pvRf_24_0, pvRf_24_1, pvRf_24_2, pvRf_28_0, pvRf_28_1, pvRf_28_2, pvRf_28_3, pvRf_33_0, pvRf_33_1, pvRf_36_0, pvRf_36_1, pvE_lconst0, pvE_lastore, pvAL, pvE_iinc, pvIc_s, pvE_goto, pvE_aload_n1, fX8_22, pvE_iadd, pvE_lconst1, pvE_invokestatic (h0 := eX8_28), pvC1_s, pvC2_s, pvAf_v, pvAf_x, pvPop, pvCs, pvCat, pvPush, aX8_count_28, pvE_iload_n2, pvE_iload_n3, pvE_invokevirtual, aX8_count_32, pvE_lstore, pvS2, pvE_bipush, pvE_irem, fX8_36, pvE_iand, pvE_if_eq, pvE_lload, pvLL_s, pvE_laload, pvE_ladd, pvE_lreturn, bX8_count_0, uX8_count_0, bX8_count_3, uX8_count_3, bX8_count_25, uX8_count_25, bX8_count_44, uX8_count_44, bX8_count_62, uX8_count_62, bX8_count_68, uX8_count_68, bX8_count_101, uX8_count_101, bX8_count_107, uX8_count_107, pvMk_t, pvMk_f, pvMk_n, pvRtG, pvRecv_r, pvUp_nl, pvUp_same, pvUp_ap, pvSt_ap, pvX_c, pvX_ms, pvX_mn, pvE_nil, pvEn_i, pvEn_r, pvEn_l, pvEn_0, pvEn_s, pvRt, pvRv, pvTh, pvKc, pvGo, pvTgt, Int.toNat_natCast, false_and, and_false, true_and, and_true, if_true, if_false, reduceIte, reduceCtorEq, forall_const, false_or, or_false, true_or, or_true, ne_eq, not_true_eq_false, not_false_eq_true, implies_true, false_implies, Nat.reduceAdd, Nat.reduceSub, Nat.reduceMul, Nat.reduceEqDiff, Nat.reduceLT, Nat.reduceLeDiff, Int.reduceAdd, Int.reduceSub, Int.reduceMul, Int.reduceNeg, Int.reduceToNat, Int.reduceLE, Int.reduceLT, Int.reduceEq, Int.reduceNe, and_self]
        (repeat' first | with_reducible apply And.intro | with_reducible intro _)
        all_goals first
          | omega
          | skip
        refine ⟨A, ⟨hA', by omega, hp⟩, fun z'' f2 p1 p2 => ⟨by omega, q9 z'' f2 p1 p2⟩⟩
    have clr : ∀ (m i : Nat) (z' : pvM), i + m = 3456 → frF [] [34, 35] z z' → (∀ j, j < i → z'.2.1 34 j = 0) →
        SW 3 [some (vR 33), some (vR p), some (vI (e : Int)), some (vI (l : Int)), some (vI (i : Int)), none, none] z' := by
      intro m
      induction m using Nat.strongRecOn with
      | _ m ih =>
        intro i z' hi f1 o1
        refine hc 20 _ _ _ fun _ _ => ?_
        simp only [pvSt1]
        have hA' := psS_m hA f1 (by simp)
        have e4 := hA'.2.2.1
        by_cases hi2 : 3456 ≤ i
        · have hfe : (pvUp z'.2.1 34 (3440 + A.2.1).toNat (z'.2.1 34 (3440 + A.2.1).toNat + 1)) 34 = (fun k => if k = (3440 + A.2.1).toNat then z'.2.1 34 (3440 + A.2.1).toNat + 1 else z'.2.1 34 k) := by
            funext k
            simp only [pvUp_ap, true_and]
          have hs : ∀ W : Int → Int, smN ((pvUp z'.2.1 34 (3440 + A.2.1).toNat (z'.2.1 34 (3440 + A.2.1).toNat + 1)) 34) W 3456 = W (3440 + A.2.1) := fun W => by
            rw [hfe, smN_u, smN_0 3456 (fun j hj => o1 j (by omega)), if_pos (by omega), show (((3440 + A.2.1).toNat : Nat) : Int) = 3440 + A.2.1 by omega]
            omega
          have q9 := evs e 0 (z'.1, pvUp z'.2.1 34 (3440 + A.2.1).toNat (z'.2.1 34 (3440 + A.2.1).toNat + 1), z'.2.2) (by omega) (by (repeat' first | assumption | exact frF_0 | (refine frF_u ?_ (by decide)) | (refine frF_s ?_ (by decide)) | (refine frF_l ?_ (by decide)))) (hs _) (Int.le_of_eq (hs _)) (fun j hj => by
            show 0 ≤ (pvUp z'.2.1 34 (3440 + A.2.1).toNat (z'.2.1 34 (3440 + A.2.1).toNat + 1)) 34 j
            have h1 := o1 (3440 + A.2.1).toNat (by omega)
            have h2 := o1 j (by omega)
            simp only [pvUp_ap, true_and]
            split <;> omega)
          simp only [C_X8_addTo, e4, pvE_iconst, pvE_istore, pvS1, List.length_cons, List.length_nil, pvClr_i, pvClr_r, pvClr_l, pvClr_d, pvClr_f, pvClr_n, pvE_iload, pvLI_s, pvLd, pvE_sipush, pvE_icmp_ge, pvE_aload_n0, pvLA_s, pvE_getfield, pvGf_0, pvGf_1, pvGf_2, fX8_13, pvSh_0, pvSh_1, pvSh_2, pvSh_3, pvSh_4, pvSh_5, pvSh_6, pvSh_7, pvSh_8, pvSh_9, pvSh_10, pvSh_11, pvSh_12, pvSh_13, pvSh_14, pvSh_15, pvSh_16, pvSh_17, pvSh_18, pvSh_19, pvSh_20, pvSh_21, pvSh_22, pvSh_23, pvSh_24, pvSh_25, pvSh_26, pvSh_27, pvSh_28, pvSh_29, pvSh_30, pvSh_31, pvSh_32, pvSh_33, pvSh_34, pvSh_35, pvSh_36, pvSh_37, pvSh_38, pvRf_0_0, pvRf_0_1, pvRf_0_2, pvRf_0_3, pvRf_0_4, pvRf_0_5, pvRf_0_6, pvRf_0_7, pvRf_0_8, pvRf_0_9, pvRf_0_10, pvRf_1_0, pvRf_3_0, pvRf_5_0, pvRf_5_1, pvRf_5_2, pvRf_9_0, pvRf_9_1, pvRf_9_2, pvRf_13_0, pvRf_13_1, pvRf_13_2, pvRf_17_0, pvRf_17_2, pvRf_20_0, pvRf_20_1, pvRf_20_2, pvRf_24_0, pvRf_24_1, pvRf_24_2, pvRf_28_0, pvRf_28_1, pvRf_28_2, pvRf_28_3, pvRf_33_0, pvRf_33_1, pvRf_36_0, pvRf_36_1, pvE_lconst0, pvE_lastore, pvAL, pvE_iinc, pvIc_s, pvE_goto, pvE_aload_n1, fX8_22, pvE_iadd, pvE_lconst1, pvE_invokestatic (h0 := eX8_28), pvC1_s, pvC2_s, pvAf_v, pvAf_x, pvPop, pvCs, pvCat, pvPush, aX8_count_28, pvE_iload_n2, pvE_iload_n3, pvE_invokevirtual, aX8_count_32, pvE_lstore, pvS2, pvE_bipush, pvE_irem, fX8_36, pvE_iand, pvE_if_eq, pvE_lload, pvLL_s, pvE_laload, pvE_ladd, pvE_lreturn, bX8_count_0, uX8_count_0, bX8_count_3, uX8_count_3, bX8_count_25, uX8_count_25, bX8_count_44, uX8_count_44, bX8_count_62, uX8_count_62, bX8_count_68, uX8_count_68, bX8_count_101, uX8_count_101, bX8_count_107, uX8_count_107, pvMk_t, pvMk_f, pvMk_n, pvRtG, pvRecv_r, pvUp_nl, pvUp_same, pvUp_ap, pvSt_ap, pvX_c, pvX_ms, pvX_mn, pvE_nil, pvEn_i, pvEn_r, pvEn_l, pvEn_0, pvEn_s, pvRt, pvRv, pvTh, pvKc, pvGo, pvTgt, Int.toNat_natCast, false_and, and_false, true_and, and_true, if_true, if_false, reduceIte, reduceCtorEq, forall_const, false_or, or_false, true_or, or_true, ne_eq, not_true_eq_false, not_false_eq_true, implies_true, false_implies, Nat.reduceAdd, Nat.reduceSub, Nat.reduceMul, Nat.reduceEqDiff, Nat.reduceLT, Nat.reduceLeDiff, Int.reduceAdd, Int.reduceSub, Int.reduceMul, Int.reduceNeg, Int.reduceToNat, Int.reduceLE, Int.reduceLT, Int.reduceEq, Int.reduceNe, and_self]
          (repeat' first | with_reducible apply And.intro | with_reducible intro _)
          all_goals first
            | omega
            | exact q9
        · have q9 := ih (m - 1) (by omega) (i + 1) (z'.1, pvUp z'.2.1 34 i 0, z'.2.2) (by omega) (by (repeat' first | assumption | exact frF_0 | (refine frF_u ?_ (by decide)) | (refine frF_s ?_ (by decide)) | (refine frF_l ?_ (by decide)))) (fun j hj => by
            show pvUp z'.2.1 34 i 0 34 j = 0
            simp only [pvUp_ap, true_and]
            split
            · rfl
            · exact o1 j (by omega))
          simp only [pvE_iconst, pvE_istore, pvS1, List.length_cons, List.length_nil, pvClr_i, pvClr_r, pvClr_l, pvClr_d, pvClr_f, pvClr_n, pvE_iload, pvLI_s, pvLd, pvE_sipush, pvE_icmp_ge, pvE_aload_n0, pvLA_s, pvE_getfield, pvGf_0, pvGf_1, pvGf_2, fX8_13, pvSh_0, pvSh_1, pvSh_2, pvSh_3, pvSh_4, pvSh_5, pvSh_6, pvSh_7, pvSh_8, pvSh_9, pvSh_10, pvSh_11, pvSh_12, pvSh_13, pvSh_14, pvSh_15, pvSh_16, pvSh_17, pvSh_18, pvSh_19, pvSh_20, pvSh_21, pvSh_22, pvSh_23, pvSh_24, pvSh_25, pvSh_26, pvSh_27, pvSh_28, pvSh_29, pvSh_30, pvSh_31, pvSh_32, pvSh_33, pvSh_34, pvSh_35, pvSh_36, pvSh_37, pvSh_38, pvRf_0_0, pvRf_0_1, pvRf_0_2, pvRf_0_3, pvRf_0_4, pvRf_0_5, pvRf_0_6, pvRf_0_7, pvRf_0_8, pvRf_0_9, pvRf_0_10, pvRf_1_0, pvRf_3_0, pvRf_5_0, pvRf_5_1, pvRf_5_2, pvRf_9_0, pvRf_9_1, pvRf_9_2, pvRf_13_0, pvRf_13_1, pvRf_13_2, pvRf_17_0, pvRf_17_2, pvRf_20_0, pvRf_20_1, pvRf_20_2, pvRf_24_0, pvRf_24_1, pvRf_24_2, pvRf_28_0, pvRf_28_1, pvRf_28_2, pvRf_28_3, pvRf_33_0, pvRf_33_1, pvRf_36_0, pvRf_36_1, pvE_lconst0, pvE_lastore, pvAL, pvE_iinc, pvIc_s, pvE_goto, pvE_aload_n1, fX8_22, pvE_iadd, pvE_lconst1, pvE_invokestatic (h0 := eX8_28), pvC1_s, pvC2_s, pvAf_v, pvAf_x, pvPop, pvCs, pvCat, pvPush, aX8_count_28, pvE_iload_n2, pvE_iload_n3, pvE_invokevirtual, aX8_count_32, pvE_lstore, pvS2, pvE_bipush, pvE_irem, fX8_36, pvE_iand, pvE_if_eq, pvE_lload, pvLL_s, pvE_laload, pvE_ladd, pvE_lreturn, bX8_count_0, uX8_count_0, bX8_count_3, uX8_count_3, bX8_count_25, uX8_count_25, bX8_count_44, uX8_count_44, bX8_count_62, uX8_count_62, bX8_count_68, uX8_count_68, bX8_count_101, uX8_count_101, bX8_count_107, uX8_count_107, pvMk_t, pvMk_f, pvMk_n, pvRtG, pvRecv_r, pvUp_nl, pvUp_same, pvUp_ap, pvSt_ap, pvX_c, pvX_ms, pvX_mn, pvE_nil, pvEn_i, pvEn_r, pvEn_l, pvEn_0, pvEn_s, pvRt, pvRv, pvTh, pvKc, pvGo, pvTgt, Int.toNat_natCast, false_and, and_false, true_and, and_true, if_true, if_false, reduceIte, reduceCtorEq, forall_const, false_or, or_false, true_or, or_true, ne_eq, not_true_eq_false, not_false_eq_true, implies_true, false_implies, Nat.reduceAdd, Nat.reduceSub, Nat.reduceMul, Nat.reduceEqDiff, Nat.reduceLT, Nat.reduceLeDiff, Int.reduceAdd, Int.reduceSub, Int.reduceMul, Int.reduceNeg, Int.reduceToNat, Int.reduceLE, Int.reduceLT, Int.reduceEq, Int.reduceNe, and_self]
          (repeat' first | with_reducible apply And.intro | with_reducible intro _)
          all_goals first
            | omega
            | exact q9
    refine hc 20 _ _ _ fun _ _ => ?_
    simp only [pvSt1]
    have q9 := clr 3456 0 z rfl frF_0 (fun j hj => absurd hj (Nat.not_lt_zero _))
    simp only [pvE_iconst, pvE_istore, pvS1, List.length_cons, List.length_nil, pvClr_i, pvClr_r, pvClr_l, pvClr_d, pvClr_f, pvClr_n, pvE_iload, pvLI_s, pvLd, pvE_sipush, pvE_icmp_ge, pvE_aload_n0, pvLA_s, pvE_getfield, pvGf_0, pvGf_1, pvGf_2, fX8_13, pvSh_0, pvSh_1, pvSh_2, pvSh_3, pvSh_4, pvSh_5, pvSh_6, pvSh_7, pvSh_8, pvSh_9, pvSh_10, pvSh_11, pvSh_12, pvSh_13, pvSh_14, pvSh_15, pvSh_16, pvSh_17, pvSh_18, pvSh_19, pvSh_20, pvSh_21, pvSh_22, pvSh_23, pvSh_24, pvSh_25, pvSh_26, pvSh_27, pvSh_28, pvSh_29, pvSh_30, pvSh_31, pvSh_32, pvSh_33, pvSh_34, pvSh_35, pvSh_36, pvSh_37, pvSh_38, pvRf_0_0, pvRf_0_1, pvRf_0_2, pvRf_0_3, pvRf_0_4, pvRf_0_5, pvRf_0_6, pvRf_0_7, pvRf_0_8, pvRf_0_9, pvRf_0_10, pvRf_1_0, pvRf_3_0, pvRf_5_0, pvRf_5_1, pvRf_5_2, pvRf_9_0, pvRf_9_1, pvRf_9_2, pvRf_13_0, pvRf_13_1, pvRf_13_2, pvRf_17_0, pvRf_17_2, pvRf_20_0, pvRf_20_1, pvRf_20_2, pvRf_24_0, pvRf_24_1, pvRf_24_2, pvRf_28_0, pvRf_28_1, pvRf_28_2, pvRf_28_3, pvRf_33_0, pvRf_33_1, pvRf_36_0, pvRf_36_1, pvE_lconst0, pvE_lastore, pvAL, pvE_iinc, pvIc_s, pvE_goto, pvE_aload_n1, fX8_22, pvE_iadd, pvE_lconst1, pvE_invokestatic (h0 := eX8_28), pvC1_s, pvC2_s, pvAf_v, pvAf_x, pvPop, pvCs, pvCat, pvPush, aX8_count_28, pvE_iload_n2, pvE_iload_n3, pvE_invokevirtual, aX8_count_32, pvE_lstore, pvS2, pvE_bipush, pvE_irem, fX8_36, pvE_iand, pvE_if_eq, pvE_lload, pvLL_s, pvE_laload, pvE_ladd, pvE_lreturn, bX8_count_0, uX8_count_0, bX8_count_3, uX8_count_3, bX8_count_25, uX8_count_25, bX8_count_44, uX8_count_44, bX8_count_62, uX8_count_62, bX8_count_68, uX8_count_68, bX8_count_101, uX8_count_101, bX8_count_107, uX8_count_107, pvMk_t, pvMk_f, pvMk_n, pvRtG, pvRecv_r, pvUp_nl, pvUp_same, pvUp_ap, pvSt_ap, pvX_c, pvX_ms, pvX_mn, pvE_nil, pvEn_i, pvEn_r, pvEn_l, pvEn_0, pvEn_s, pvRt, pvRv, pvTh, pvKc, pvGo, pvTgt, Int.toNat_natCast, false_and, and_false, true_and, and_true, if_true, if_false, reduceIte, reduceCtorEq, forall_const, false_or, or_false, true_or, or_true, ne_eq, not_true_eq_false, not_false_eq_true, implies_true, false_implies, Nat.reduceAdd, Nat.reduceSub, Nat.reduceMul, Nat.reduceEqDiff, Nat.reduceLT, Nat.reduceLeDiff, Int.reduceAdd, Int.reduceSub, Int.reduceMul, Int.reduceNeg, Int.reduceToNat, Int.reduceLE, Int.reduceLT, Int.reduceEq, Int.reduceNe, and_self]
    (repeat' first | with_reducible apply And.intro | with_reducible intro _)
    all_goals first
      | omega
      | exact q9
  · exact h.elim

