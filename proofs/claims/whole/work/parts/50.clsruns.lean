/-! the class: runs counted -/
def C_X4_readEvent : pvC
  | [.inr (.inr (.inl id)), .inr (.inr (.inl b)), .inl a, .inl v], z, Q => id = 24 ∧ ((b = 1 ∨ b = 3) ∧ WfC (z.1 (b + 1)) ∧ 0 ≤ v ∧ v < 216) ∧
      ∀ z' : pvM, frF [] [25, 26] z z' → (∀ R : Int → Int, sm4 (z'.2.1 25) R = sm4 (z.2.1 25) (rnS (autC (z.1 (b + 1))).2.2.2 a v R (autC (z.1 (b + 1))).1.toNat)) → Q (.inl none) z'
  | _, _, _ => False
def bX4_readEvent : Nat → List (Instr × Nat)
  | 0 => [(.iconst 0, 1), (.istore 4, 2)]
  | 3 => [(.iload 4, 2), (.iconst 4, 1), (.if_icmp .ge 17, 3), (.aload_n 0, 1), (.getfield 15, 3), (.iload 4, 2), (.lconst 0, 1), (.lastore, 1), (.iinc 4 1, 3), (.goto (-17), 3)]
  | 23 => [(.iconst 0, 1), (.istore 4, 2)]
  | 26 => [(.iload 4, 2), (.aload_n 1, 1), (.invokevirtual 49, 3), (.if_icmp .ge 73, 3), (.aload_n 1, 1), (.iload 4, 2), (.iconst 0, 1), (.invokevirtual 52, 3), (.istore 5, 2), (.aload_n 1, 1), (.iload 4, 2), (.iconst 2, 1), (.invokevirtual 52, 3), (.istore 6, 2), (.aload_n 1, 1), (.iload 4, 2), (.iload_n 2, 1), (.iload_n 3, 1), (.invokevirtual 56, 3), (.ifCond .eq 38, 3), (.iload 5, 2), (.iconst 4, 1), (.invokestatic 60, 3), (.ifCond .eq 29, 3), (.iload 6, 2), (.iconst 4, 1), (.invokestatic 60, 3), (.ifCond .eq 20, 3), (.aload_n 0, 1), (.getfield 15, 3), (.iload 6, 2), (.dup2, 1), (.laload, 1), (.aload_n 0, 1), (.getfield 9, 3), (.iload 5, 2), (.laload, 1), (.ladd, 1), (.lastore, 1)]
  | 99 => [(.iinc 4 1, 3), (.goto (-76), 3)]
  | 105 => [(.iconst 0, 1), (.istore 4, 2)]
  | 108 => [(.iload 4, 2), (.iconst 4, 1), (.if_icmp .ge 23, 3), (.aload_n 0, 1), (.getfield 9, 3), (.iload 4, 2), (.aload_n 0, 1), (.getfield 15, 3), (.iload 4, 2), (.laload, 1), (.lastore, 1), (.iinc 4 1, 3), (.goto (-23), 3)]
  | 134 => [(.return_, 1)]
  | _ => []
def uX4_readEvent : Nat → Option (List Bool)
  | 3 => some [true, true, true, true, true, false, false]
  | 26 => some [true, true, true, true, true, false, false]
  | 108 => some [true, false, false, false, true, false, false]
  | _ => none
def aX4_readEvent : pvCa
  | 49 => some (1, false, 0, 0, C_X0_size)
  | 52 => some (3, false, 0, 0, C_X0_cell)
  | 56 => some (4, false, 0, 0, C_X0_canRead)
  | 60 => some (2, true, 0, 0, C_X9_isIndex)
  | _ => none
theorem bX4_readEvent_0 : bX4_readEvent 0 = [(.iconst 0, 1), (.istore 4, 2)] := rfl
theorem uX4_readEvent_0 : uX4_readEvent 0 = none := rfl
theorem bX4_readEvent_3 : bX4_readEvent 3 = [(.iload 4, 2), (.iconst 4, 1), (.if_icmp .ge 17, 3), (.aload_n 0, 1), (.getfield 15, 3), (.iload 4, 2), (.lconst 0, 1), (.lastore, 1), (.iinc 4 1, 3), (.goto (-17), 3)] := rfl
theorem uX4_readEvent_3 : uX4_readEvent 3 = some [true, true, true, true, true, false, false] := rfl
theorem bX4_readEvent_23 : bX4_readEvent 23 = [(.iconst 0, 1), (.istore 4, 2)] := rfl
theorem uX4_readEvent_23 : uX4_readEvent 23 = none := rfl
theorem bX4_readEvent_26 : bX4_readEvent 26 = [(.iload 4, 2), (.aload_n 1, 1), (.invokevirtual 49, 3), (.if_icmp .ge 73, 3), (.aload_n 1, 1), (.iload 4, 2), (.iconst 0, 1), (.invokevirtual 52, 3), (.istore 5, 2), (.aload_n 1, 1), (.iload 4, 2), (.iconst 2, 1), (.invokevirtual 52, 3), (.istore 6, 2), (.aload_n 1, 1), (.iload 4, 2), (.iload_n 2, 1), (.iload_n 3, 1), (.invokevirtual 56, 3), (.ifCond .eq 38, 3), (.iload 5, 2), (.iconst 4, 1), (.invokestatic 60, 3), (.ifCond .eq 29, 3), (.iload 6, 2), (.iconst 4, 1), (.invokestatic 60, 3), (.ifCond .eq 20, 3), (.aload_n 0, 1), (.getfield 15, 3), (.iload 6, 2), (.dup2, 1), (.laload, 1), (.aload_n 0, 1), (.getfield 9, 3), (.iload 5, 2), (.laload, 1), (.ladd, 1), (.lastore, 1)] := rfl
theorem uX4_readEvent_26 : uX4_readEvent 26 = some [true, true, true, true, true, false, false] := rfl
theorem bX4_readEvent_99 : bX4_readEvent 99 = [(.iinc 4 1, 3), (.goto (-76), 3)] := rfl
theorem uX4_readEvent_99 : uX4_readEvent 99 = none := rfl
theorem bX4_readEvent_105 : bX4_readEvent 105 = [(.iconst 0, 1), (.istore 4, 2)] := rfl
theorem uX4_readEvent_105 : uX4_readEvent 105 = none := rfl
theorem bX4_readEvent_108 : bX4_readEvent 108 = [(.iload 4, 2), (.iconst 4, 1), (.if_icmp .ge 23, 3), (.aload_n 0, 1), (.getfield 9, 3), (.iload 4, 2), (.aload_n 0, 1), (.getfield 15, 3), (.iload 4, 2), (.laload, 1), (.lastore, 1), (.iinc 4 1, 3), (.goto (-23), 3)] := rfl
theorem uX4_readEvent_108 : uX4_readEvent 108 = some [true, false, false, false, true, false, false] := rfl
theorem bX4_readEvent_134 : bX4_readEvent 134 = [(.return_, 1)] := rfl
theorem uX4_readEvent_134 : uX4_readEvent 134 = none := rfl
theorem aX4_readEvent_49 : aX4_readEvent 49 = some (1, false, 0, 0, C_X0_size) := rfl
theorem aX4_readEvent_52 : aX4_readEvent 52 = some (3, false, 0, 0, C_X0_cell) := rfl
theorem aX4_readEvent_56 : aX4_readEvent 56 = some (4, false, 0, 0, C_X0_canRead) := rfl
theorem aX4_readEvent_60 : aX4_readEvent 60 = some (2, true, 0, 0, C_X9_isIndex) := rfl
def mX4_readEvent : Room := { frames := 4, cells := 1, slots := 6, locals := 88 }
set_option maxRecDepth 100000 in
set_option maxHeartbeats 4000000 in
theorem okX4_readEvent : pvOkM fX4 aX4_readEvent kX4 eX4 none bX4_readEvent uX4_readEvent 7 C_X4_readEvent := by
  intro Q SW hc as z h hS hz
  unfold C_X4_readEvent at h
  split at h
  · rename_i id b a v
    obtain ⟨rfl, ⟨hb, hw, hv⟩, h2⟩ := h
    refine ⟨Nat.le_of_ble_eq_true rfl, ?_⟩
    have hsh : pvSh b = Sum.inl 0 := by rcases hb with rfl | rfl <;> rfl
    have hn : 0 ≤ z.1 (b + 1) 0 ∧ z.1 (b + 1) 0 ≤ 10 := hw.1.1
    have copy : ∀ (m k : Nat) (z' : pvM), k + m = 4 → frF [] [25, 26] z z' → (∀ R : Int → Int, sm4 (z'.2.1 26) R = sm4 (z.2.1 25) (rnS (autC (z.1 (b + 1))).2.2.2 a v R (autC (z.1 (b + 1))).1.toNat)) → (∀ j, j < k → z'.2.1 25 j = z'.2.1 26 j) →
        SW 108 [some (vR 24), none, none, none, some (vI (k : Int)), none, none] z' := by
      intro m
      induction m using Nat.strongRecOn with
      | _ m ih =>
        intro k z' hk f1 o1 o2
        refine hc 20 _ _ _ fun _ _ => ?_
        simp only [pvSt1]
        simp only [pvE_iconst, pvE_istore, pvS1, List.length_cons, List.length_nil, pvClr_i, pvClr_r, pvClr_l, pvClr_d, pvClr_f, pvClr_n, pvE_iload, pvLI_s, pvLd, pvE_icmp_ge, pvE_aload_n0, pvLA_s, pvE_getfield, pvGf_0, pvGf_1, pvGf_2, fX4_15, pvSh_0, pvSh_1, pvSh_2, pvSh_3, pvSh_4, pvSh_5, pvSh_6, pvSh_7, pvSh_8, pvSh_9, pvSh_10, pvSh_11, pvSh_12, pvSh_13, pvSh_14, pvSh_15, pvSh_16, pvSh_17, pvSh_18, pvSh_19, pvSh_20, pvSh_21, pvSh_22, pvSh_23, pvSh_24, pvSh_25, pvSh_26, pvSh_27, pvSh_28, pvSh_29, pvSh_30, pvSh_31, pvSh_32, pvSh_33, pvSh_34, pvSh_35, pvSh_36, pvSh_37, pvSh_38, pvSh_39, pvSh_40, pvSh_41, pvSh_42, pvSh_43, pvSh_44, pvSh_45, pvSh_46, pvSh_47, pvSh_48, pvSh_49, pvSh_50, pvSh_51, pvSh_52, pvSh_53, pvSh_54, pvSh_55, pvSh_56, pvSh_57, pvSh_58, pvSh_59, pvRf_0_0, pvRf_0_1, pvRf_0_2, pvRf_0_3, pvRf_0_4, pvRf_0_5, pvRf_0_6, pvRf_0_7, pvRf_0_8, pvRf_0_9, pvRf_0_10, pvRf_1_0, pvRf_3_0, pvRf_5_0, pvRf_5_1, pvRf_5_2, pvRf_9_0, pvRf_9_1, pvRf_9_2, pvRf_13_0, pvRf_13_1, pvRf_13_2, pvRf_17_0, pvRf_17_2, pvRf_20_0, pvRf_20_1, pvRf_20_2, pvRf_24_0, pvRf_24_1, pvRf_24_2, pvRf_28_0, pvRf_28_1, pvRf_28_2, pvRf_28_3, pvRf_33_0, pvRf_33_1, pvRf_36_0, pvRf_36_1, pvRf_39_0, pvRf_39_1, pvRf_39_2, pvRf_39_5, pvRf_39_6, pvRf_39_9, pvRf_39_13, pvRf_39_15, pvRf_39_16, pvRf_39_17, pvRf_39_19, pvRf_39_20, pvRf_39_22, pvRf_39_23, pvRf_39_24, pvRf_39_25, pvRf_39_29, pvRf_39_30, pvE_lconst0, pvE_lastore, pvAL, pvE_iinc, pvIc_s, pvE_goto, pvE_aload_n1, pvE_invokevirtual, pvC1_s, pvC2_s, pvAf_v, pvAf_x, pvPop, pvCs, pvCat, pvPush, aX4_readEvent_49, aX4_readEvent_52, pvE_iload_n2, pvE_iload_n3, aX4_readEvent_56, pvE_if_eq, pvE_invokestatic (h0 := eX4_60), aX4_readEvent_60, pvE_dup2, pvE_laload, fX4_9, pvE_ladd, pvE_return, bX4_readEvent_0, uX4_readEvent_0, bX4_readEvent_3, uX4_readEvent_3, bX4_readEvent_23, uX4_readEvent_23, bX4_readEvent_26, uX4_readEvent_26, bX4_readEvent_99, uX4_readEvent_99, bX4_readEvent_105, uX4_readEvent_105, bX4_readEvent_108, uX4_readEvent_108, bX4_readEvent_134, uX4_readEvent_134, pvMk_t, pvMk_f, pvMk_n, pvRecv_r, pvUp_nl, pvUp_same, pvUp_ap, pvSt_ap, pvX_c, pvX_ms, pvX_mn, pvE_nil, pvEn_i, pvEn_r, pvEn_l, pvEn_0, pvEn_s, pvRt, pvRv, pvTh, pvKc, pvGo, pvTgt, Int.toNat_natCast, false_and, and_false, true_and, and_true, if_true, if_false, reduceIte, reduceCtorEq, forall_const, false_or, or_false, true_or, or_true, ne_eq, not_true_eq_false, not_false_eq_true, implies_true, false_implies, Nat.reduceAdd, Nat.reduceSub, Nat.reduceMul, Nat.reduceEqDiff, Nat.reduceLT, Nat.reduceLeDiff, Int.reduceAdd, Int.reduceSub, Int.reduceMul, Int.reduceNeg, Int.reduceToNat, Int.reduceLE, Int.reduceLT, Int.reduceEq, Int.reduceNe, and_self]
        by_cases hx : 4 ≤ k
        · have q9 := h2 z' f1 (fun R => by rw [← o1 R]; unfold sm4; rw [o2 0 (by omega), o2 1 (by omega), o2 2 (by omega), o2 3 (by omega)])
          (repeat' (first | with_reducible apply And.intro | intro _))
          all_goals first
            | omega
            | exact q9
        · have q9 := ih (m - 1) (by omega) (k + 1) (z'.1, pvUp z'.2.1 25 k (z'.2.1 26 k), z'.2.2) (by omega) (by (repeat' first | assumption | exact frF_0 | (refine frF_u ?_ (by decide)) | (refine frF_s ?_ (by decide)) | (refine frF_l ?_ (by decide)))) (by simp only [pvUp_nl, ne_eq, Nat.reduceEqDiff, not_false_eq_true]; exact o1) (fun j hj => by
            simp only [pvUp_ap, Nat.reduceEqDiff, true_and, false_and, if_false, reduceIte]
            by_cases e : j = k
            · rw [if_pos e, e]
            · rw [if_neg e]; exact o2 j (by omega))
          (repeat' (first | with_reducible apply And.intro | intro _))
          all_goals first
            | omega
            | exact q9
    have loop : ∀ (m k : Nat) (z' : pvM), (k : Int) + m = z.1 (b + 1) 0 → frF [] [25, 26] z z' → z'.2.1 25 = z.2.1 25 → (∀ R : Int → Int, sm4 (z'.2.1 26) R = sm4 (z.2.1 25) (rnS (autC (z.1 (b + 1))).2.2.2 a v R k)) →
        SW 26 [some (vR 24), some (vR b), some (vI a), some (vI v), some (vI (k : Int)), none, none] z' := by
      intro m
      induction m using Nat.strongRecOn with
      | _ m ih =>
        intro k z' hk f1 g25 o1
        have gb := f1.1 (b + 1) (by simp)
        refine hc 20 _ _ _ fun _ _ => ?_
        simp only [pvSt1]
        simp only [C_X0_size, C_X0_cell, C_X0_canRead, C_X9_isIndex, gb, pvE_iconst, pvE_istore, pvS1, List.length_cons, List.length_nil, pvClr_i, pvClr_r, pvClr_l, pvClr_d, pvClr_f, pvClr_n, pvE_iload, pvLI_s, pvLd, pvE_icmp_ge, pvE_aload_n0, pvLA_s, pvE_getfield, pvGf_0, pvGf_1, pvGf_2, fX4_15, pvSh_0, pvSh_1, pvSh_2, pvSh_3, pvSh_4, pvSh_5, pvSh_6, pvSh_7, pvSh_8, pvSh_9, pvSh_10, pvSh_11, pvSh_12, pvSh_13, pvSh_14, pvSh_15, pvSh_16, pvSh_17, pvSh_18, pvSh_19, pvSh_20, pvSh_21, pvSh_22, pvSh_23, pvSh_24, pvSh_25, pvSh_26, pvSh_27, pvSh_28, pvSh_29, pvSh_30, pvSh_31, pvSh_32, pvSh_33, pvSh_34, pvSh_35, pvSh_36, pvSh_37, pvSh_38, pvSh_39, pvSh_40, pvSh_41, pvSh_42, pvSh_43, pvSh_44, pvSh_45, pvSh_46, pvSh_47, pvSh_48, pvSh_49, pvSh_50, pvSh_51, pvSh_52, pvSh_53, pvSh_54, pvSh_55, pvSh_56, pvSh_57, pvSh_58, pvSh_59, pvRf_0_0, pvRf_0_1, pvRf_0_2, pvRf_0_3, pvRf_0_4, pvRf_0_5, pvRf_0_6, pvRf_0_7, pvRf_0_8, pvRf_0_9, pvRf_0_10, pvRf_1_0, pvRf_3_0, pvRf_5_0, pvRf_5_1, pvRf_5_2, pvRf_9_0, pvRf_9_1, pvRf_9_2, pvRf_13_0, pvRf_13_1, pvRf_13_2, pvRf_17_0, pvRf_17_2, pvRf_20_0, pvRf_20_1, pvRf_20_2, pvRf_24_0, pvRf_24_1, pvRf_24_2, pvRf_28_0, pvRf_28_1, pvRf_28_2, pvRf_28_3, pvRf_33_0, pvRf_33_1, pvRf_36_0, pvRf_36_1, pvRf_39_0, pvRf_39_1, pvRf_39_2, pvRf_39_5, pvRf_39_6, pvRf_39_9, pvRf_39_13, pvRf_39_15, pvRf_39_16, pvRf_39_17, pvRf_39_19, pvRf_39_20, pvRf_39_22, pvRf_39_23, pvRf_39_24, pvRf_39_25, pvRf_39_29, pvRf_39_30, pvE_lconst0, pvE_lastore, pvAL, pvE_iinc, pvIc_s, pvE_goto, pvE_aload_n1, pvE_invokevirtual, pvC1_s, pvC2_s, pvAf_v, pvAf_x, pvPop, pvCs, pvCat, pvPush, aX4_readEvent_49, aX4_readEvent_52, pvE_iload_n2, pvE_iload_n3, aX4_readEvent_56, pvE_if_eq, pvE_invokestatic (h0 := eX4_60), aX4_readEvent_60, pvE_dup2, pvE_laload, fX4_9, pvE_ladd, pvE_return, bX4_readEvent_0, uX4_readEvent_0, bX4_readEvent_3, uX4_readEvent_3, bX4_readEvent_23, uX4_readEvent_23, bX4_readEvent_26, uX4_readEvent_26, bX4_readEvent_99, uX4_readEvent_99, bX4_readEvent_105, uX4_readEvent_105, bX4_readEvent_108, uX4_readEvent_108, bX4_readEvent_134, uX4_readEvent_134, pvMk_t, pvMk_f, pvMk_n, pvRecv_r, pvUp_nl, pvUp_same, pvUp_ap, pvSt_ap, pvX_c, pvX_ms, pvX_mn, pvE_nil, pvEn_i, pvEn_r, pvEn_l, pvEn_0, pvEn_s, pvRt, pvRv, pvTh, pvKc, pvGo, pvTgt, Int.toNat_natCast, false_and, and_false, true_and, and_true, if_true, if_false, reduceIte, reduceCtorEq, forall_const, false_or, or_false, true_or, or_true, ne_eq, not_true_eq_false, not_false_eq_true, implies_true, false_implies, Nat.reduceAdd, Nat.reduceSub, Nat.reduceMul, Nat.reduceEqDiff, Nat.reduceLT, Nat.reduceLeDiff, Int.reduceAdd, Int.reduceSub, Int.reduceMul, Int.reduceNeg, Int.reduceToNat, Int.reduceLE, Int.reduceLT, Int.reduceEq, Int.reduceNe, and_self]
        by_cases hx : z.1 (b + 1) 0 ≤ k
        · have q9 := copy 4 0 z' (by omega) f1 (fun R => by rw [o1 R]; rw [show k = (autC (z.1 (b + 1))).1.toNat by show k = (z.1 (b + 1) 0).toNat; omega]) (fun j hj => absurd hj (Nat.not_lt_zero j))
          (repeat' (first | with_reducible apply And.intro | intro _))
          all_goals first
            | omega
            | exact q9
        · have hT := autC_w hw (t := k) (by omega)
          have e0 := hT.1
          have e2 := hT.2.2.1
          have e := autC_T (f := z.1 (b + 1)) (t := k) (by show (k : Int) < z.1 (b + 1) 0; omega)
          have t0 : (autC (z.1 (b + 1))).2.2.2 k 0 = cT (z.1 (b + 1)) k 0 := by rw [e, nrT_s (by decide)]
          have t1 : (autC (z.1 (b + 1))).2.2.2 k 1 = cT (z.1 (b + 1)) k 1 := by rw [e, nrT_s (by decide)]
          have t2 : (autC (z.1 (b + 1))).2.2.2 k 2 = cT (z.1 (b + 1)) k 2 := by rw [e, nrT_s (by decide)]
          have tb : blF ((autC (z.1 (b + 1))).2.2.2 k) v = blF (cT (z.1 (b + 1)) k) v := by rw [e, blF_nr]
          have hs := fun R => sm4_S (T := (autC (z.1 (b + 1))).2.2.2) (a := a) (v := v) (R := R) (z.2.1 25) k (by rw [t0]; exact e0)
          by_cases hg : cT (z.1 (b + 1)) k 1 = a ∧ blF (cT (z.1 (b + 1)) k) v < 0
          · have q9 := ih (m - 1) (by omega) (k + 1) (z'.1, pvUp z'.2.1 26 (cT (z.1 (b + 1)) k 2).toNat (z'.2.1 26 (cT (z.1 (b + 1)) k 2).toNat + z'.2.1 25 (cT (z.1 (b + 1)) k 0).toNat), z'.2.2) (by omega) (by (repeat' first | assumption | exact frF_0 | (refine frF_u ?_ (by decide)) | (refine frF_s ?_ (by decide)) | (refine frF_l ?_ (by decide)))) (by simp only [pvUp_nl, ne_eq, Nat.reduceEqDiff, not_false_eq_true]; exact g25) (fun R => by
              rw [hs R, t1, tb, if_pos hg, ← o1 R, t0, t2, ← g25]
              have := sm4_u (c := z'.2.1 26) (R := R) (j := (cT (z.1 (b + 1)) k 2).toNat) (x := z'.2.1 25 (cT (z.1 (b + 1)) k 0).toNat) (by omega)
              rw [show (((cT (z.1 (b + 1)) k 2).toNat : Nat) : Int) = cT (z.1 (b + 1)) k 2 by omega] at this
              rw [← this]
              congr 1
              funext j
              simp only [pvUp_ap, true_and])
            (repeat' (first | with_reducible apply And.intro | intro _))
            all_goals first
              | omega
              | contradiction
              | exact q9
          · have q9 := ih (m - 1) (by omega) (k + 1) z' (by omega) f1 g25 (fun R => by rw [hs R, t1, tb, if_neg hg, o1 R, Int.add_zero])
            (repeat' (first | with_reducible apply And.intro | intro _))
            all_goals first
              | omega
              | contradiction
              | exact q9
    have zero : ∀ (m k : Nat) (z' : pvM), k + m = 4 → frF [] [25, 26] z z' → z'.2.1 25 = z.2.1 25 → (∀ j, j < k → z'.2.1 26 j = 0) →
        SW 3 [some (vR 24), some (vR b), some (vI a), some (vI v), some (vI (k : Int)), none, none] z' := by
      intro m
      induction m using Nat.strongRecOn with
      | _ m ih =>
        intro k z' hk f1 g25 o1
        refine hc 20 _ _ _ fun _ _ => ?_
        simp only [pvSt1]
        simp only [pvE_iconst, pvE_istore, pvS1, List.length_cons, List.length_nil, pvClr_i, pvClr_r, pvClr_l, pvClr_d, pvClr_f, pvClr_n, pvE_iload, pvLI_s, pvLd, pvE_icmp_ge, pvE_aload_n0, pvLA_s, pvE_getfield, pvGf_0, pvGf_1, pvGf_2, fX4_15, pvSh_0, pvSh_1, pvSh_2, pvSh_3, pvSh_4, pvSh_5, pvSh_6, pvSh_7, pvSh_8, pvSh_9, pvSh_10, pvSh_11, pvSh_12, pvSh_13, pvSh_14, pvSh_15, pvSh_16, pvSh_17, pvSh_18, pvSh_19, pvSh_20, pvSh_21, pvSh_22, pvSh_23, pvSh_24, pvSh_25, pvSh_26, pvSh_27, pvSh_28, pvSh_29, pvSh_30, pvSh_31, pvSh_32, pvSh_33, pvSh_34, pvSh_35, pvSh_36, pvSh_37, pvSh_38, pvSh_39, pvSh_40, pvSh_41, pvSh_42, pvSh_43, pvSh_44, pvSh_45, pvSh_46, pvSh_47, pvSh_48, pvSh_49, pvSh_50, pvSh_51, pvSh_52, pvSh_53, pvSh_54, pvSh_55, pvSh_56, pvSh_57, pvSh_58, pvSh_59, pvRf_0_0, pvRf_0_1, pvRf_0_2, pvRf_0_3, pvRf_0_4, pvRf_0_5, pvRf_0_6, pvRf_0_7, pvRf_0_8, pvRf_0_9, pvRf_0_10, pvRf_1_0, pvRf_3_0, pvRf_5_0, pvRf_5_1, pvRf_5_2, pvRf_9_0, pvRf_9_1, pvRf_9_2, pvRf_13_0, pvRf_13_1, pvRf_13_2, pvRf_17_0, pvRf_17_2, pvRf_20_0, pvRf_20_1, pvRf_20_2, pvRf_24_0, pvRf_24_1, pvRf_24_2, pvRf_28_0, pvRf_28_1, pvRf_28_2, pvRf_28_3, pvRf_33_0, pvRf_33_1, pvRf_36_0, pvRf_36_1, pvRf_39_0, pvRf_39_1, pvRf_39_2, pvRf_39_5, pvRf_39_6, pvRf_39_9, pvRf_39_13, pvRf_39_15, pvRf_39_16, pvRf_39_17, pvRf_39_19, pvRf_39_20, pvRf_39_22, pvRf_39_23, pvRf_39_24, pvRf_39_25, pvRf_39_29, pvRf_39_30, pvE_lconst0, pvE_lastore, pvAL, pvE_iinc, pvIc_s, pvE_goto, pvE_aload_n1, pvE_invokevirtual, pvC1_s, pvC2_s, pvAf_v, pvAf_x, pvPop, pvCs, pvCat, pvPush, aX4_readEvent_49, aX4_readEvent_52, pvE_iload_n2, pvE_iload_n3, aX4_readEvent_56, pvE_if_eq, pvE_invokestatic (h0 := eX4_60), aX4_readEvent_60, pvE_dup2, pvE_laload, fX4_9, pvE_ladd, pvE_return, bX4_readEvent_0, uX4_readEvent_0, bX4_readEvent_3, uX4_readEvent_3, bX4_readEvent_23, uX4_readEvent_23, bX4_readEvent_26, uX4_readEvent_26, bX4_readEvent_99, uX4_readEvent_99, bX4_readEvent_105, uX4_readEvent_105, bX4_readEvent_108, uX4_readEvent_108, bX4_readEvent_134, uX4_readEvent_134, pvMk_t, pvMk_f, pvMk_n, pvRecv_r, pvUp_nl, pvUp_same, pvUp_ap, pvSt_ap, pvX_c, pvX_ms, pvX_mn, pvE_nil, pvEn_i, pvEn_r, pvEn_l, pvEn_0, pvEn_s, pvRt, pvRv, pvTh, pvKc, pvGo, pvTgt, Int.toNat_natCast, false_and, and_false, true_and, and_true, if_true, if_false, reduceIte, reduceCtorEq, forall_const, false_or, or_false, true_or, or_true, ne_eq, not_true_eq_false, not_false_eq_true, implies_true, false_implies, Nat.reduceAdd, Nat.reduceSub, Nat.reduceMul, Nat.reduceEqDiff, Nat.reduceLT, Nat.reduceLeDiff, Int.reduceAdd, Int.reduceSub, Int.reduceMul, Int.reduceNeg, Int.reduceToNat, Int.reduceLE, Int.reduceLT, Int.reduceEq, Int.reduceNe, and_self]
        by_cases hx : 4 ≤ k
        · have q9 := loop (z.1 (b + 1) 0).toNat 0 z' (by omega) f1 g25 (fun R => by unfold sm4; rw [o1 0 (by omega), o1 1 (by omega), o1 2 (by omega), o1 3 (by omega)]; simp [rnS])
          (repeat' (first | with_reducible apply And.intro | intro _))
          all_goals first
            | omega
            | exact q9
        · have q9 := ih (m - 1) (by omega) (k + 1) (z'.1, pvUp z'.2.1 26 k 0, z'.2.2) (by omega) (by (repeat' first | assumption | exact frF_0 | (refine frF_u ?_ (by decide)) | (refine frF_s ?_ (by decide)) | (refine frF_l ?_ (by decide)))) (by simp only [pvUp_nl, ne_eq, Nat.reduceEqDiff, not_false_eq_true]; exact g25) (fun j hj => by
            simp only [pvUp_ap, true_and]
            by_cases e : j = k
            · rw [if_pos e]
            · rw [if_neg e]; exact o1 j (by omega))
          (repeat' (first | with_reducible apply And.intro | intro _))
          all_goals first
            | omega
            | exact q9
    refine hc 20 _ _ _ fun _ _ => ?_
    simp only [pvSt1]
    simp only [pvE_iconst, pvE_istore, pvS1, List.length_cons, List.length_nil, pvClr_i, pvClr_r, pvClr_l, pvClr_d, pvClr_f, pvClr_n, pvE_iload, pvLI_s, pvLd, pvE_icmp_ge, pvE_aload_n0, pvLA_s, pvE_getfield, pvGf_0, pvGf_1, pvGf_2, fX4_15, pvSh_0, pvSh_1, pvSh_2, pvSh_3, pvSh_4, pvSh_5, pvSh_6, pvSh_7, pvSh_8, pvSh_9, pvSh_10, pvSh_11, pvSh_12, pvSh_13, pvSh_14, pvSh_15, pvSh_16, pvSh_17, pvSh_18, pvSh_19, pvSh_20, pvSh_21, pvSh_22, pvSh_23, pvSh_24, pvSh_25, pvSh_26, pvSh_27, pvSh_28, pvSh_29, pvSh_30, pvSh_31, pvSh_32, pvSh_33, pvSh_34, pvSh_35, pvSh_36, pvSh_37, pvSh_38, pvSh_39, pvSh_40, pvSh_41, pvSh_42, pvSh_43, pvSh_44, pvSh_45, pvSh_46, pvSh_47, pvSh_48, pvSh_49, pvSh_50, pvSh_51, pvSh_52, pvSh_53, pvSh_54, pvSh_55, pvSh_56, pvSh_57, pvSh_58, pvSh_59, pvRf_0_0, pvRf_0_1, pvRf_0_2, pvRf_0_3, pvRf_0_4, pvRf_0_5, pvRf_0_6, pvRf_0_7, pvRf_0_8, pvRf_0_9, pvRf_0_10, pvRf_1_0, pvRf_3_0, pvRf_5_0, pvRf_5_1, pvRf_5_2, pvRf_9_0, pvRf_9_1, pvRf_9_2, pvRf_13_0, pvRf_13_1, pvRf_13_2, pvRf_17_0, pvRf_17_2, pvRf_20_0, pvRf_20_1, pvRf_20_2, pvRf_24_0, pvRf_24_1, pvRf_24_2, pvRf_28_0, pvRf_28_1, pvRf_28_2, pvRf_28_3, pvRf_33_0, pvRf_33_1, pvRf_36_0, pvRf_36_1, pvRf_39_0, pvRf_39_1, pvRf_39_2, pvRf_39_5, pvRf_39_6, pvRf_39_9, pvRf_39_13, pvRf_39_15, pvRf_39_16, pvRf_39_17, pvRf_39_19, pvRf_39_20, pvRf_39_22, pvRf_39_23, pvRf_39_24, pvRf_39_25, pvRf_39_29, pvRf_39_30, pvE_lconst0, pvE_lastore, pvAL, pvE_iinc, pvIc_s, pvE_goto, pvE_aload_n1, pvE_invokevirtual, pvC1_s, pvC2_s, pvAf_v, pvAf_x, pvPop, pvCs, pvCat, pvPush, aX4_readEvent_49, aX4_readEvent_52, pvE_iload_n2, pvE_iload_n3, aX4_readEvent_56, pvE_if_eq, pvE_invokestatic (h0 := eX4_60), aX4_readEvent_60, pvE_dup2, pvE_laload, fX4_9, pvE_ladd, pvE_return, bX4_readEvent_0, uX4_readEvent_0, bX4_readEvent_3, uX4_readEvent_3, bX4_readEvent_23, uX4_readEvent_23, bX4_readEvent_26, uX4_readEvent_26, bX4_readEvent_99, uX4_readEvent_99, bX4_readEvent_105, uX4_readEvent_105, bX4_readEvent_108, uX4_readEvent_108, bX4_readEvent_134, uX4_readEvent_134, pvMk_t, pvMk_f, pvMk_n, pvRecv_r, pvUp_nl, pvUp_same, pvUp_ap, pvSt_ap, pvX_c, pvX_ms, pvX_mn, pvE_nil, pvEn_i, pvEn_r, pvEn_l, pvEn_0, pvEn_s, pvRt, pvRv, pvTh, pvKc, pvGo, pvTgt, Int.toNat_natCast, false_and, and_false, true_and, and_true, if_true, if_false, reduceIte, reduceCtorEq, forall_const, false_or, or_false, true_or, or_true, ne_eq, not_true_eq_false, not_false_eq_true, implies_true, false_implies, Nat.reduceAdd, Nat.reduceSub, Nat.reduceMul, Nat.reduceEqDiff, Nat.reduceLT, Nat.reduceLeDiff, Int.reduceAdd, Int.reduceSub, Int.reduceMul, Int.reduceNeg, Int.reduceToNat, Int.reduceLE, Int.reduceLT, Int.reduceEq, Int.reduceNe, and_self]
    (repeat' (first | with_reducible apply And.intro | intro _))
    all_goals first
      | omega
      | exact zero 4 0 z (by omega) frF_0 rfl (fun j hj => absurd hj (Nat.not_lt_zero j))
  · exact h.elim
def C_X4_count : pvC
  | [.inr (.inr (.inl id)), .inr (.inr (.inl b)), .inr (.inr (.inl w)), .inl e], z, Q => id = 24 ∧ ((b = 1 ∨ b = 3) ∧ w = 20 ∧ WfC (z.1 (b + 1)) ∧ WcF z.1 ∧ 0 ≤ e ∧ e ≤ 15) ∧
      ∀ z' : pvM, frF [] [25, 26] z z' → Q (.inl (some (vL (ruF (autC (z.1 (b + 1))) (z.1 21) (z.1 22) (z.1 20 4).toNat e)))) z'
  | _, _, _ => False
def bX4_count : Nat → List (Instr × Nat)
  | 0 => [(.iconst 0, 1), (.istore 4, 2)]
  | 3 => [(.iload 4, 2), (.iconst 4, 1), (.if_icmp .ge 33, 3), (.aload_n 0, 1), (.getfield 9, 3), (.iload 4, 2), (.aload_n 1, 1), (.invokevirtual 22, 3), (.iload 4, 2), (.invokestatic 28, 3), (.ifCond .eq 7, 3), (.lconst 1, 1), (.goto 4, 3)]
  | 31 => [(.lconst 0, 1)]
  | 32 => [(.lastore, 1), (.iinc 4 1, 3), (.goto (-33), 3)]
  | 39 => [(.iconst 0, 1), (.istore 4, 2)]
  | 42 => [(.iload 4, 2), (.aload_n 2, 1), (.getfield 32, 3), (.if_icmp .ge 26, 3), (.aload_n 0, 1), (.aload_n 1, 1), (.aload_n 2, 1), (.iload 4, 2), (.invokevirtual 38, 3), (.aload_n 2, 1), (.iload 4, 2), (.invokevirtual 42, 3), (.invokevirtual 45, 3), (.iinc 4 1, 3), (.goto (-29), 3)]
  | 74 => [(.lconst 0, 1), (.lstore 4, 2), (.iconst 0, 1), (.istore 6, 2)]
  | 80 => [(.iload 6, 2), (.iconst 4, 1), (.if_icmp .ge 30, 3), (.iload_n 3, 1), (.iload 6, 2), (.invokestatic 28, 3), (.ifCond .eq 15, 3), (.lload 4, 2), (.aload_n 0, 1), (.getfield 9, 3), (.iload 6, 2), (.laload, 1), (.ladd, 1), (.lstore 4, 2)]
  | 107 => [(.iinc 6 1, 3), (.goto (-30), 3)]
  | 113 => [(.lload 4, 2), (.lreturn, 1)]
  | _ => []
def uX4_count : Nat → Option (List Bool)
  | 3 => some [true, true, true, true, true, false, false]
  | 42 => some [true, true, true, true, true, false, false]
  | 80 => some [true, false, false, true, true, false, true]
  | _ => none
def aX4_count : pvCa
  | 22 => some (1, false, 0, 0, C_X0_initialStates)
  | 28 => some (2, true, 0, 0, C_X9_hasState)
  | 38 => some (2, false, 6, 0, C_X6_letterAt)
  | 42 => some (2, false, 6, 0, C_X6_valuationAt)
  | 45 => some (4, false, 4, 0, C_X4_readEvent)
  | _ => none
theorem bX4_count_0 : bX4_count 0 = [(.iconst 0, 1), (.istore 4, 2)] := rfl
theorem uX4_count_0 : uX4_count 0 = none := rfl
theorem bX4_count_3 : bX4_count 3 = [(.iload 4, 2), (.iconst 4, 1), (.if_icmp .ge 33, 3), (.aload_n 0, 1), (.getfield 9, 3), (.iload 4, 2), (.aload_n 1, 1), (.invokevirtual 22, 3), (.iload 4, 2), (.invokestatic 28, 3), (.ifCond .eq 7, 3), (.lconst 1, 1), (.goto 4, 3)] := rfl
theorem uX4_count_3 : uX4_count 3 = some [true, true, true, true, true, false, false] := rfl
theorem bX4_count_31 : bX4_count 31 = [(.lconst 0, 1)] := rfl
theorem uX4_count_31 : uX4_count 31 = none := rfl
theorem bX4_count_32 : bX4_count 32 = [(.lastore, 1), (.iinc 4 1, 3), (.goto (-33), 3)] := rfl
theorem uX4_count_32 : uX4_count 32 = none := rfl
theorem bX4_count_39 : bX4_count 39 = [(.iconst 0, 1), (.istore 4, 2)] := rfl
theorem uX4_count_39 : uX4_count 39 = none := rfl
theorem bX4_count_42 : bX4_count 42 = [(.iload 4, 2), (.aload_n 2, 1), (.getfield 32, 3), (.if_icmp .ge 26, 3), (.aload_n 0, 1), (.aload_n 1, 1), (.aload_n 2, 1), (.iload 4, 2), (.invokevirtual 38, 3), (.aload_n 2, 1), (.iload 4, 2), (.invokevirtual 42, 3), (.invokevirtual 45, 3), (.iinc 4 1, 3), (.goto (-29), 3)] := rfl
theorem uX4_count_42 : uX4_count 42 = some [true, true, true, true, true, false, false] := rfl
theorem bX4_count_74 : bX4_count 74 = [(.lconst 0, 1), (.lstore 4, 2), (.iconst 0, 1), (.istore 6, 2)] := rfl
theorem uX4_count_74 : uX4_count 74 = none := rfl
theorem bX4_count_80 : bX4_count 80 = [(.iload 6, 2), (.iconst 4, 1), (.if_icmp .ge 30, 3), (.iload_n 3, 1), (.iload 6, 2), (.invokestatic 28, 3), (.ifCond .eq 15, 3), (.lload 4, 2), (.aload_n 0, 1), (.getfield 9, 3), (.iload 6, 2), (.laload, 1), (.ladd, 1), (.lstore 4, 2)] := rfl
theorem uX4_count_80 : uX4_count 80 = some [true, false, false, true, true, false, true] := rfl
theorem bX4_count_107 : bX4_count 107 = [(.iinc 6 1, 3), (.goto (-30), 3)] := rfl
theorem uX4_count_107 : uX4_count 107 = none := rfl
theorem bX4_count_113 : bX4_count 113 = [(.lload 4, 2), (.lreturn, 1)] := rfl
theorem uX4_count_113 : uX4_count 113 = none := rfl
theorem aX4_count_22 : aX4_count 22 = some (1, false, 0, 0, C_X0_initialStates) := rfl
theorem aX4_count_28 : aX4_count 28 = some (2, true, 0, 0, C_X9_hasState) := rfl
theorem aX4_count_38 : aX4_count 38 = some (2, false, 6, 0, C_X6_letterAt) := rfl
theorem aX4_count_42 : aX4_count 42 = some (2, false, 6, 0, C_X6_valuationAt) := rfl
theorem aX4_count_45 : aX4_count 45 = some (4, false, 4, 0, C_X4_readEvent) := rfl
def mX4_count : Room := { frames := 5, cells := 1, slots := 6, locals := 114 }
set_option maxRecDepth 100000 in
set_option maxHeartbeats 4000000 in
theorem okX4_count : pvOkM fX4 aX4_count kX4 eX4 (some .long) bX4_count uX4_count 7 C_X4_count := by
  intro Q SW hc as z h hS hz
  unfold C_X4_count at h
  split at h
  · rename_i id b w e
    obtain ⟨rfl, ⟨hb, rfl, hw, hd, he⟩, h2⟩ := h
    refine ⟨Nat.le_of_ble_eq_true rfl, ?_⟩
    have hsh : pvSh b = Sum.inl 0 := by rcases hb with rfl | rfl <;> rfl
    have hi : 0 ≤ z.1 (b + 1) 1 ∧ z.1 (b + 1) 1 ≤ 15 := hw.1.2.1
    have hd1 := hd.1.1
    have fin : ∀ (m k : Nat) (z' : pvM) (s : Int), k + m = 4 → frF [] [25, 26] z z' → s = (if 0 < k then z'.2.1 25 0 * biF e 0 else 0) + (if 1 < k then z'.2.1 25 1 * biF e 1 else 0) + (if 2 < k then z'.2.1 25 2 * biF e 2 else 0) + (if 3 < k then z'.2.1 25 3 * biF e 3 else 0) → sm4 (z'.2.1 25) (biF e) = ruF (autC (z.1 (b + 1))) (z.1 21) (z.1 22) (z.1 20 4).toNat e →
        SW 80 [some (vR 24), none, none, some (vI e), some (vL s), none, some (vI (k : Int))] z' := by
      intro m
      induction m using Nat.strongRecOn with
      | _ m ih =>
        intro k z' s hk f1 hs o1
        refine hc 20 _ _ _ fun _ _ => ?_
        simp only [pvSt1]
        simp only [C_X9_hasState, pvE_iconst, pvE_istore, pvS1, List.length_cons, List.length_nil, pvClr_i, pvClr_r, pvClr_l, pvClr_d, pvClr_f, pvClr_n, pvE_iload, pvLI_s, pvLd, pvE_icmp_ge, pvE_aload_n0, pvLA_s, pvE_getfield, pvGf_0, pvGf_1, pvGf_2, fX4_9, pvSh_0, pvSh_1, pvSh_2, pvSh_3, pvSh_4, pvSh_5, pvSh_6, pvSh_7, pvSh_8, pvSh_9, pvSh_10, pvSh_11, pvSh_12, pvSh_13, pvSh_14, pvSh_15, pvSh_16, pvSh_17, pvSh_18, pvSh_19, pvSh_20, pvSh_21, pvSh_22, pvSh_23, pvSh_24, pvSh_25, pvSh_26, pvSh_27, pvSh_28, pvSh_29, pvSh_30, pvSh_31, pvSh_32, pvSh_33, pvSh_34, pvSh_35, pvSh_36, pvSh_37, pvSh_38, pvSh_39, pvSh_40, pvSh_41, pvSh_42, pvSh_43, pvSh_44, pvSh_45, pvSh_46, pvSh_47, pvSh_48, pvSh_49, pvSh_50, pvSh_51, pvSh_52, pvSh_53, pvSh_54, pvSh_55, pvSh_56, pvSh_57, pvSh_58, pvSh_59, pvRf_0_0, pvRf_0_1, pvRf_0_2, pvRf_0_3, pvRf_0_4, pvRf_0_5, pvRf_0_6, pvRf_0_7, pvRf_0_8, pvRf_0_9, pvRf_0_10, pvRf_1_0, pvRf_3_0, pvRf_5_0, pvRf_5_1, pvRf_5_2, pvRf_9_0, pvRf_9_1, pvRf_9_2, pvRf_13_0, pvRf_13_1, pvRf_13_2, pvRf_17_0, pvRf_17_2, pvRf_20_0, pvRf_20_1, pvRf_20_2, pvRf_24_0, pvRf_24_1, pvRf_24_2, pvRf_28_0, pvRf_28_1, pvRf_28_2, pvRf_28_3, pvRf_33_0, pvRf_33_1, pvRf_36_0, pvRf_36_1, pvRf_39_0, pvRf_39_1, pvRf_39_2, pvRf_39_5, pvRf_39_6, pvRf_39_9, pvRf_39_13, pvRf_39_15, pvRf_39_16, pvRf_39_17, pvRf_39_19, pvRf_39_20, pvRf_39_22, pvRf_39_23, pvRf_39_24, pvRf_39_25, pvRf_39_29, pvRf_39_30, pvE_aload_n1, pvE_invokevirtual, pvC1_s, pvC2_s, pvAf_v, pvAf_x, pvPop, pvCs, pvCat, pvPush, aX4_count_22, pvE_invokestatic (h0 := eX4_28), aX4_count_28, pvE_if_eq, pvE_lconst1, pvE_goto, pvE_lconst0, pvE_lastore, pvAL, pvE_iinc, pvIc_s, pvE_aload_n2, fX4_32, aX4_count_38, aX4_count_42, aX4_count_45, pvE_lstore, pvS2, pvE_iload_n3, pvE_lload, pvLL_s, pvE_laload, pvE_ladd, pvE_lreturn, bX4_count_0, uX4_count_0, bX4_count_3, uX4_count_3, bX4_count_31, uX4_count_31, bX4_count_32, uX4_count_32, bX4_count_39, uX4_count_39, bX4_count_42, uX4_count_42, bX4_count_74, uX4_count_74, bX4_count_80, uX4_count_80, bX4_count_107, uX4_count_107, bX4_count_113, uX4_count_113, pvMk_t, pvMk_f, pvMk_n, pvRecv_r, pvUp_nl, pvUp_same, pvUp_ap, pvSt_ap, pvX_c, pvX_ms, pvX_mn, pvE_nil, pvEn_i, pvEn_r, pvEn_l, pvEn_0, pvEn_s, pvRt, pvRv, pvTh, pvKc, pvGo, pvTgt, Int.toNat_natCast, false_and, and_false, true_and, and_true, if_true, if_false, reduceIte, reduceCtorEq, forall_const, false_or, or_false, true_or, or_true, ne_eq, not_true_eq_false, not_false_eq_true, implies_true, false_implies, Nat.reduceAdd, Nat.reduceSub, Nat.reduceMul, Nat.reduceEqDiff, Nat.reduceLT, Nat.reduceLeDiff, Int.reduceAdd, Int.reduceSub, Int.reduceMul, Int.reduceNeg, Int.reduceToNat, Int.reduceLE, Int.reduceLT, Int.reduceEq, Int.reduceNe, and_self]
        by_cases hx : 4 ≤ k
        · have q9 := h2 z' f1
          rw [← o1, show sm4 (z'.2.1 25) (biF e) = s by rw [hs, if_pos (by omega), if_pos (by omega), if_pos (by omega), if_pos (by omega)]; rfl] at q9
          (repeat' (first | with_reducible apply And.intro | intro _))
          all_goals first
            | omega
            | exact q9
        · have q9 := ih (m - 1) (by omega) (k + 1) z' (s + z'.2.1 25 k * biF e (k : Int)) (by omega) f1 (by
            rw [hs]
            rcases (show k = 0 ∨ k = 1 ∨ k = 2 ∨ k = 3 by omega) with rfl | rfl | rfl | rfl <;> simp) o1
          have bb : biF e (k : Int) = if btF e (k : Int) then 1 else 0 := rfl
          cases hbt : btF e (k : Int)
          · rw [bb, hbt] at q9
            simp only [Bool.false_eq_true, if_false, reduceIte, Int.mul_zero, Int.add_zero] at q9
            (repeat' (first | with_reducible apply And.intro | intro _))
            all_goals first
              | omega
              | contradiction
              | exact q9
          · rw [bb, hbt] at q9
            simp only [if_true, reduceIte, Int.mul_one] at q9
            (repeat' (first | with_reducible apply And.intro | intro _))
            all_goals first
              | omega
              | contradiction
              | exact q9
    have loop : ∀ (m k : Nat) (z' : pvM), (k : Int) + m = z.1 20 4 → frF [] [25, 26] z z' → sm4 (z'.2.1 25) (rnB (autC (z.1 (b + 1))) (z.1 21) (z.1 22) (biF e) m k) = ruF (autC (z.1 (b + 1))) (z.1 21) (z.1 22) (z.1 20 4).toNat e →
        SW 42 [some (vR 24), some (vR b), some (vR 20), some (vI e), some (vI (k : Int)), none, none] z' := by
      intro m
      induction m with
      | zero =>
        intro k z' hk f1 o1
        have g20 := f1.1 20 (by simp)
        have q9 := fin 4 0 z' 0 (by omega) f1 (by simp) o1
        refine hc 20 _ _ _ fun _ _ => ?_
        simp only [pvSt1]
        simp only [C_X6_letterAt, C_X6_valuationAt, C_X4_readEvent, g20, pvE_iconst, pvE_istore, pvS1, List.length_cons, List.length_nil, pvClr_i, pvClr_r, pvClr_l, pvClr_d, pvClr_f, pvClr_n, pvE_iload, pvLI_s, pvLd, pvE_icmp_ge, pvE_aload_n0, pvLA_s, pvE_getfield, pvGf_0, pvGf_1, pvGf_2, fX4_9, pvSh_0, pvSh_1, pvSh_2, pvSh_3, pvSh_4, pvSh_5, pvSh_6, pvSh_7, pvSh_8, pvSh_9, pvSh_10, pvSh_11, pvSh_12, pvSh_13, pvSh_14, pvSh_15, pvSh_16, pvSh_17, pvSh_18, pvSh_19, pvSh_20, pvSh_21, pvSh_22, pvSh_23, pvSh_24, pvSh_25, pvSh_26, pvSh_27, pvSh_28, pvSh_29, pvSh_30, pvSh_31, pvSh_32, pvSh_33, pvSh_34, pvSh_35, pvSh_36, pvSh_37, pvSh_38, pvSh_39, pvSh_40, pvSh_41, pvSh_42, pvSh_43, pvSh_44, pvSh_45, pvSh_46, pvSh_47, pvSh_48, pvSh_49, pvSh_50, pvSh_51, pvSh_52, pvSh_53, pvSh_54, pvSh_55, pvSh_56, pvSh_57, pvSh_58, pvSh_59, pvRf_0_0, pvRf_0_1, pvRf_0_2, pvRf_0_3, pvRf_0_4, pvRf_0_5, pvRf_0_6, pvRf_0_7, pvRf_0_8, pvRf_0_9, pvRf_0_10, pvRf_1_0, pvRf_3_0, pvRf_5_0, pvRf_5_1, pvRf_5_2, pvRf_9_0, pvRf_9_1, pvRf_9_2, pvRf_13_0, pvRf_13_1, pvRf_13_2, pvRf_17_0, pvRf_17_2, pvRf_20_0, pvRf_20_1, pvRf_20_2, pvRf_24_0, pvRf_24_1, pvRf_24_2, pvRf_28_0, pvRf_28_1, pvRf_28_2, pvRf_28_3, pvRf_33_0, pvRf_33_1, pvRf_36_0, pvRf_36_1, pvRf_39_0, pvRf_39_1, pvRf_39_2, pvRf_39_5, pvRf_39_6, pvRf_39_9, pvRf_39_13, pvRf_39_15, pvRf_39_16, pvRf_39_17, pvRf_39_19, pvRf_39_20, pvRf_39_22, pvRf_39_23, pvRf_39_24, pvRf_39_25, pvRf_39_29, pvRf_39_30, pvE_aload_n1, pvE_invokevirtual, pvC1_s, pvC2_s, pvAf_v, pvAf_x, pvPop, pvCs, pvCat, pvPush, aX4_count_22, pvE_invokestatic (h0 := eX4_28), aX4_count_28, pvE_if_eq, pvE_lconst1, pvE_goto, pvE_lconst0, pvE_lastore, pvAL, pvE_iinc, pvIc_s, pvE_aload_n2, fX4_32, aX4_count_38, aX4_count_42, aX4_count_45, pvE_lstore, pvS2, pvE_iload_n3, pvE_lload, pvLL_s, pvE_laload, pvE_ladd, pvE_lreturn, bX4_count_0, uX4_count_0, bX4_count_3, uX4_count_3, bX4_count_31, uX4_count_31, bX4_count_32, uX4_count_32, bX4_count_39, uX4_count_39, bX4_count_42, uX4_count_42, bX4_count_74, uX4_count_74, bX4_count_80, uX4_count_80, bX4_count_107, uX4_count_107, bX4_count_113, uX4_count_113, pvMk_t, pvMk_f, pvMk_n, pvRecv_r, pvUp_nl, pvUp_same, pvUp_ap, pvSt_ap, pvX_c, pvX_ms, pvX_mn, pvE_nil, pvEn_i, pvEn_r, pvEn_l, pvEn_0, pvEn_s, pvRt, pvRv, pvTh, pvKc, pvGo, pvTgt, Int.toNat_natCast, false_and, and_false, true_and, and_true, if_true, if_false, reduceIte, reduceCtorEq, forall_const, false_or, or_false, true_or, or_true, ne_eq, not_true_eq_false, not_false_eq_true, implies_true, false_implies, Nat.reduceAdd, Nat.reduceSub, Nat.reduceMul, Nat.reduceEqDiff, Nat.reduceLT, Nat.reduceLeDiff, Int.reduceAdd, Int.reduceSub, Int.reduceMul, Int.reduceNeg, Int.reduceToNat, Int.reduceLE, Int.reduceLT, Int.reduceEq, Int.reduceNe, and_self]
        (repeat' (first | with_reducible apply And.intro | intro _))
        all_goals first
          | omega
          | exact q9
      | succ m ih =>
        intro k z' hk f1 o1
        have g20 := f1.1 20 (by simp)
        have g22 := f1.1 22 (by simp)
        have g23 := f1.1 23 (by simp)
        have gb := f1.1 (b + 1) (by simp)
        have hv := WcF_v hd (k := k) (by omega)
        refine hc 20 _ _ _ fun _ _ => ?_
        simp only [pvSt1]
        simp only [C_X6_letterAt, C_X6_valuationAt, C_X4_readEvent, g20, g22, g23, gb, pvE_iconst, pvE_istore, pvS1, List.length_cons, List.length_nil, pvClr_i, pvClr_r, pvClr_l, pvClr_d, pvClr_f, pvClr_n, pvE_iload, pvLI_s, pvLd, pvE_icmp_ge, pvE_aload_n0, pvLA_s, pvE_getfield, pvGf_0, pvGf_1, pvGf_2, fX4_9, pvSh_0, pvSh_1, pvSh_2, pvSh_3, pvSh_4, pvSh_5, pvSh_6, pvSh_7, pvSh_8, pvSh_9, pvSh_10, pvSh_11, pvSh_12, pvSh_13, pvSh_14, pvSh_15, pvSh_16, pvSh_17, pvSh_18, pvSh_19, pvSh_20, pvSh_21, pvSh_22, pvSh_23, pvSh_24, pvSh_25, pvSh_26, pvSh_27, pvSh_28, pvSh_29, pvSh_30, pvSh_31, pvSh_32, pvSh_33, pvSh_34, pvSh_35, pvSh_36, pvSh_37, pvSh_38, pvSh_39, pvSh_40, pvSh_41, pvSh_42, pvSh_43, pvSh_44, pvSh_45, pvSh_46, pvSh_47, pvSh_48, pvSh_49, pvSh_50, pvSh_51, pvSh_52, pvSh_53, pvSh_54, pvSh_55, pvSh_56, pvSh_57, pvSh_58, pvSh_59, pvRf_0_0, pvRf_0_1, pvRf_0_2, pvRf_0_3, pvRf_0_4, pvRf_0_5, pvRf_0_6, pvRf_0_7, pvRf_0_8, pvRf_0_9, pvRf_0_10, pvRf_1_0, pvRf_3_0, pvRf_5_0, pvRf_5_1, pvRf_5_2, pvRf_9_0, pvRf_9_1, pvRf_9_2, pvRf_13_0, pvRf_13_1, pvRf_13_2, pvRf_17_0, pvRf_17_2, pvRf_20_0, pvRf_20_1, pvRf_20_2, pvRf_24_0, pvRf_24_1, pvRf_24_2, pvRf_28_0, pvRf_28_1, pvRf_28_2, pvRf_28_3, pvRf_33_0, pvRf_33_1, pvRf_36_0, pvRf_36_1, pvRf_39_0, pvRf_39_1, pvRf_39_2, pvRf_39_5, pvRf_39_6, pvRf_39_9, pvRf_39_13, pvRf_39_15, pvRf_39_16, pvRf_39_17, pvRf_39_19, pvRf_39_20, pvRf_39_22, pvRf_39_23, pvRf_39_24, pvRf_39_25, pvRf_39_29, pvRf_39_30, pvE_aload_n1, pvE_invokevirtual, pvC1_s, pvC2_s, pvAf_v, pvAf_x, pvPop, pvCs, pvCat, pvPush, aX4_count_22, pvE_invokestatic (h0 := eX4_28), aX4_count_28, pvE_if_eq, pvE_lconst1, pvE_goto, pvE_lconst0, pvE_lastore, pvAL, pvE_iinc, pvIc_s, pvE_aload_n2, fX4_32, aX4_count_38, aX4_count_42, aX4_count_45, pvE_lstore, pvS2, pvE_iload_n3, pvE_lload, pvLL_s, pvE_laload, pvE_ladd, pvE_lreturn, bX4_count_0, uX4_count_0, bX4_count_3, uX4_count_3, bX4_count_31, uX4_count_31, bX4_count_32, uX4_count_32, bX4_count_39, uX4_count_39, bX4_count_42, uX4_count_42, bX4_count_74, uX4_count_74, bX4_count_80, uX4_count_80, bX4_count_107, uX4_count_107, bX4_count_113, uX4_count_113, pvMk_t, pvMk_f, pvMk_n, pvRecv_r, pvUp_nl, pvUp_same, pvUp_ap, pvSt_ap, pvX_c, pvX_ms, pvX_mn, pvE_nil, pvEn_i, pvEn_r, pvEn_l, pvEn_0, pvEn_s, pvRt, pvRv, pvTh, pvKc, pvGo, pvTgt, Int.toNat_natCast, false_and, and_false, true_and, and_true, if_true, if_false, reduceIte, reduceCtorEq, forall_const, false_or, or_false, true_or, or_true, ne_eq, not_true_eq_false, not_false_eq_true, implies_true, false_implies, Nat.reduceAdd, Nat.reduceSub, Nat.reduceMul, Nat.reduceEqDiff, Nat.reduceLT, Nat.reduceLeDiff, Int.reduceAdd, Int.reduceSub, Int.reduceMul, Int.reduceNeg, Int.reduceToNat, Int.reduceLE, Int.reduceLT, Int.reduceEq, Int.reduceNe, and_self]
        (repeat' (first | with_reducible apply And.intro | intro _))
        all_goals first
          | omega
          | assumption
          | skip
        all_goals
          rename_i z1 f2 o2
          refine ih (k + 1) z1 (by omega) (frF_t f1 f2 (by simp) (fun _ h => h)) ?_
          rw [o2, ← o1, hd.2 k (by omega)]
          rfl
    have init : ∀ (m k : Nat) (z' : pvM), k + m = 4 → frF [] [25, 26] z z' → (∀ j : Nat, j < k → z'.2.1 25 j = biF (z.1 (b + 1) 1) (j : Int)) →
        SW 3 [some (vR 24), some (vR b), some (vR 20), some (vI e), some (vI (k : Int)), none, none] z' := by
      intro m
      induction m using Nat.strongRecOn with
      | _ m ih =>
        intro k z' hk f1 o1
        have gb := f1.1 (b + 1) (by simp)
        refine hc 20 _ _ _ fun _ _ => ?_
        simp only [pvSt1]
        simp only [C_X9_hasState, C_X0_initialStates, gb, pvE_iconst, pvE_istore, pvS1, List.length_cons, List.length_nil, pvClr_i, pvClr_r, pvClr_l, pvClr_d, pvClr_f, pvClr_n, pvE_iload, pvLI_s, pvLd, pvE_icmp_ge, pvE_aload_n0, pvLA_s, pvE_getfield, pvGf_0, pvGf_1, pvGf_2, fX4_9, pvSh_0, pvSh_1, pvSh_2, pvSh_3, pvSh_4, pvSh_5, pvSh_6, pvSh_7, pvSh_8, pvSh_9, pvSh_10, pvSh_11, pvSh_12, pvSh_13, pvSh_14, pvSh_15, pvSh_16, pvSh_17, pvSh_18, pvSh_19, pvSh_20, pvSh_21, pvSh_22, pvSh_23, pvSh_24, pvSh_25, pvSh_26, pvSh_27, pvSh_28, pvSh_29, pvSh_30, pvSh_31, pvSh_32, pvSh_33, pvSh_34, pvSh_35, pvSh_36, pvSh_37, pvSh_38, pvSh_39, pvSh_40, pvSh_41, pvSh_42, pvSh_43, pvSh_44, pvSh_45, pvSh_46, pvSh_47, pvSh_48, pvSh_49, pvSh_50, pvSh_51, pvSh_52, pvSh_53, pvSh_54, pvSh_55, pvSh_56, pvSh_57, pvSh_58, pvSh_59, pvRf_0_0, pvRf_0_1, pvRf_0_2, pvRf_0_3, pvRf_0_4, pvRf_0_5, pvRf_0_6, pvRf_0_7, pvRf_0_8, pvRf_0_9, pvRf_0_10, pvRf_1_0, pvRf_3_0, pvRf_5_0, pvRf_5_1, pvRf_5_2, pvRf_9_0, pvRf_9_1, pvRf_9_2, pvRf_13_0, pvRf_13_1, pvRf_13_2, pvRf_17_0, pvRf_17_2, pvRf_20_0, pvRf_20_1, pvRf_20_2, pvRf_24_0, pvRf_24_1, pvRf_24_2, pvRf_28_0, pvRf_28_1, pvRf_28_2, pvRf_28_3, pvRf_33_0, pvRf_33_1, pvRf_36_0, pvRf_36_1, pvRf_39_0, pvRf_39_1, pvRf_39_2, pvRf_39_5, pvRf_39_6, pvRf_39_9, pvRf_39_13, pvRf_39_15, pvRf_39_16, pvRf_39_17, pvRf_39_19, pvRf_39_20, pvRf_39_22, pvRf_39_23, pvRf_39_24, pvRf_39_25, pvRf_39_29, pvRf_39_30, pvE_aload_n1, pvE_invokevirtual, pvC1_s, pvC2_s, pvAf_v, pvAf_x, pvPop, pvCs, pvCat, pvPush, aX4_count_22, pvE_invokestatic (h0 := eX4_28), aX4_count_28, pvE_if_eq, pvE_lconst1, pvE_goto, pvE_lconst0, pvE_lastore, pvAL, pvE_iinc, pvIc_s, pvE_aload_n2, fX4_32, aX4_count_38, aX4_count_42, aX4_count_45, pvE_lstore, pvS2, pvE_iload_n3, pvE_lload, pvLL_s, pvE_laload, pvE_ladd, pvE_lreturn, bX4_count_0, uX4_count_0, bX4_count_3, uX4_count_3, bX4_count_31, uX4_count_31, bX4_count_32, uX4_count_32, bX4_count_39, uX4_count_39, bX4_count_42, uX4_count_42, bX4_count_74, uX4_count_74, bX4_count_80, uX4_count_80, bX4_count_107, uX4_count_107, bX4_count_113, uX4_count_113, pvMk_t, pvMk_f, pvMk_n, pvRecv_r, pvUp_nl, pvUp_same, pvUp_ap, pvSt_ap, pvX_c, pvX_ms, pvX_mn, pvE_nil, pvEn_i, pvEn_r, pvEn_l, pvEn_0, pvEn_s, pvRt, pvRv, pvTh, pvKc, pvGo, pvTgt, Int.toNat_natCast, false_and, and_false, true_and, and_true, if_true, if_false, reduceIte, reduceCtorEq, forall_const, false_or, or_false, true_or, or_true, ne_eq, not_true_eq_false, not_false_eq_true, implies_true, false_implies, Nat.reduceAdd, Nat.reduceSub, Nat.reduceMul, Nat.reduceEqDiff, Nat.reduceLT, Nat.reduceLeDiff, Int.reduceAdd, Int.reduceSub, Int.reduceMul, Int.reduceNeg, Int.reduceToNat, Int.reduceLE, Int.reduceLT, Int.reduceEq, Int.reduceNe, and_self]
        by_cases hx : 4 ≤ k
        · have q9 := loop (z.1 20 4).toNat 0 z' (by omega) f1 (by unfold ruF; unfold sm4; rw [o1 0 (by omega), o1 1 (by omega), o1 2 (by omega), o1 3 (by omega)]; rfl)
          (repeat' (first | with_reducible apply And.intro | intro _))
          all_goals first
            | omega
            | exact q9
        · have q9 := fun (x : Int) (hx : x = biF (z.1 (b + 1) 1) (k : Int)) => ih (m - 1) (by omega) (k + 1) (z'.1, pvUp z'.2.1 25 k x, z'.2.2) (by omega) (by (repeat' first | assumption | exact frF_0 | (refine frF_u ?_ (by decide)) | (refine frF_s ?_ (by decide)) | (refine frF_l ?_ (by decide)))) (fun j hj => by
            simp only [pvUp_ap, true_and]
            by_cases e : j = k
            · rw [if_pos e, e]; exact hx
            · rw [if_neg e]; exact o1 j (by omega))
          have bb : biF (z.1 (b + 1) 1) (k : Int) = if btF (z.1 (b + 1) 1) (k : Int) then 1 else 0 := rfl
          (repeat' (first | with_reducible apply And.intro | intro _))
          all_goals first
            | omega
            | (refine q9 _ ?_; rw [bb]; simp [*]; done)
    refine hc 20 _ _ _ fun _ _ => ?_
    simp only [pvSt1]
    simp only [pvE_iconst, pvE_istore, pvS1, List.length_cons, List.length_nil, pvClr_i, pvClr_r, pvClr_l, pvClr_d, pvClr_f, pvClr_n, pvE_iload, pvLI_s, pvLd, pvE_icmp_ge, pvE_aload_n0, pvLA_s, pvE_getfield, pvGf_0, pvGf_1, pvGf_2, fX4_9, pvSh_0, pvSh_1, pvSh_2, pvSh_3, pvSh_4, pvSh_5, pvSh_6, pvSh_7, pvSh_8, pvSh_9, pvSh_10, pvSh_11, pvSh_12, pvSh_13, pvSh_14, pvSh_15, pvSh_16, pvSh_17, pvSh_18, pvSh_19, pvSh_20, pvSh_21, pvSh_22, pvSh_23, pvSh_24, pvSh_25, pvSh_26, pvSh_27, pvSh_28, pvSh_29, pvSh_30, pvSh_31, pvSh_32, pvSh_33, pvSh_34, pvSh_35, pvSh_36, pvSh_37, pvSh_38, pvSh_39, pvSh_40, pvSh_41, pvSh_42, pvSh_43, pvSh_44, pvSh_45, pvSh_46, pvSh_47, pvSh_48, pvSh_49, pvSh_50, pvSh_51, pvSh_52, pvSh_53, pvSh_54, pvSh_55, pvSh_56, pvSh_57, pvSh_58, pvSh_59, pvRf_0_0, pvRf_0_1, pvRf_0_2, pvRf_0_3, pvRf_0_4, pvRf_0_5, pvRf_0_6, pvRf_0_7, pvRf_0_8, pvRf_0_9, pvRf_0_10, pvRf_1_0, pvRf_3_0, pvRf_5_0, pvRf_5_1, pvRf_5_2, pvRf_9_0, pvRf_9_1, pvRf_9_2, pvRf_13_0, pvRf_13_1, pvRf_13_2, pvRf_17_0, pvRf_17_2, pvRf_20_0, pvRf_20_1, pvRf_20_2, pvRf_24_0, pvRf_24_1, pvRf_24_2, pvRf_28_0, pvRf_28_1, pvRf_28_2, pvRf_28_3, pvRf_33_0, pvRf_33_1, pvRf_36_0, pvRf_36_1, pvRf_39_0, pvRf_39_1, pvRf_39_2, pvRf_39_5, pvRf_39_6, pvRf_39_9, pvRf_39_13, pvRf_39_15, pvRf_39_16, pvRf_39_17, pvRf_39_19, pvRf_39_20, pvRf_39_22, pvRf_39_23, pvRf_39_24, pvRf_39_25, pvRf_39_29, pvRf_39_30, pvE_aload_n1, pvE_invokevirtual, pvC1_s, pvC2_s, pvAf_v, pvAf_x, pvPop, pvCs, pvCat, pvPush, aX4_count_22, pvE_invokestatic (h0 := eX4_28), aX4_count_28, pvE_if_eq, pvE_lconst1, pvE_goto, pvE_lconst0, pvE_lastore, pvAL, pvE_iinc, pvIc_s, pvE_aload_n2, fX4_32, aX4_count_38, aX4_count_42, aX4_count_45, pvE_lstore, pvS2, pvE_iload_n3, pvE_lload, pvLL_s, pvE_laload, pvE_ladd, pvE_lreturn, bX4_count_0, uX4_count_0, bX4_count_3, uX4_count_3, bX4_count_31, uX4_count_31, bX4_count_32, uX4_count_32, bX4_count_39, uX4_count_39, bX4_count_42, uX4_count_42, bX4_count_74, uX4_count_74, bX4_count_80, uX4_count_80, bX4_count_107, uX4_count_107, bX4_count_113, uX4_count_113, pvMk_t, pvMk_f, pvMk_n, pvRecv_r, pvUp_nl, pvUp_same, pvUp_ap, pvSt_ap, pvX_c, pvX_ms, pvX_mn, pvE_nil, pvEn_i, pvEn_r, pvEn_l, pvEn_0, pvEn_s, pvRt, pvRv, pvTh, pvKc, pvGo, pvTgt, Int.toNat_natCast, false_and, and_false, true_and, and_true, if_true, if_false, reduceIte, reduceCtorEq, forall_const, false_or, or_false, true_or, or_true, ne_eq, not_true_eq_false, not_false_eq_true, implies_true, false_implies, Nat.reduceAdd, Nat.reduceSub, Nat.reduceMul, Nat.reduceEqDiff, Nat.reduceLT, Nat.reduceLeDiff, Int.reduceAdd, Int.reduceSub, Int.reduceMul, Int.reduceNeg, Int.reduceToNat, Int.reduceLE, Int.reduceLT, Int.reduceEq, Int.reduceNe, and_self]
    (repeat' (first | with_reducible apply And.intro | intro _))
    all_goals first
      | omega
      | exact init 4 0 z (by omega) frF_0 (fun j hj => absurd hj (Nat.not_lt_zero j))
  · exact h.elim
