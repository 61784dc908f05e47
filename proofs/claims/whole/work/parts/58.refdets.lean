/-! the deterministic states, found by the reference -/
def C_X10_numberOf : pvC
  | [.inr (.inr (.inl id)), .inl x], z, Q => id = 39 ∧ ∃ L : List Int, (z.1 39 18 = L.length ∧ liF (z.1 49) L.length = L ∧ L.length ≤ 16 ∧ (x ∉ L → L.length < 16)) ∧
      (x ∈ L → Q (.inl (some (vI (ixF L x)))) z) ∧
      (x ∉ L → ∀ z' : pvM, frF [39, 49] [] z z' → (∀ j, j ≠ 18 → z'.1 39 j = z.1 39 j) → z'.1 39 18 = (L ++ [x]).length → liF (z'.1 49) (L ++ [x]).length = L ++ [x] → Q (.inl (some (vI (L.length : Int)))) z')
  | _, _, _ => False
def bX10_numberOf : Nat → List (Instr × Nat)
  | 0 => [(.iconst 0, 1), (.istore_n 2, 1)]
  | 2 => [(.iload_n 2, 1), (.aload_n 0, 1), (.getfield 194, 3), (.if_icmp .ge 21, 3), (.aload_n 0, 1), (.getfield 42, 3), (.iload_n 2, 1), (.iaload, 1), (.iload_n 1, 1), (.if_icmp .ne 5, 3), (.iload_n 2, 1), (.ireturn, 1)]
  | 22 => [(.iinc 2 1, 3), (.goto (-23), 3)]
  | 28 => [(.aload_n 0, 1), (.getfield 42, 3), (.aload_n 0, 1), (.getfield 194, 3), (.iload_n 1, 1), (.iastore, 1), (.aload_n 0, 1), (.dup, 1), (.getfield 194, 3), (.iconst 1, 1), (.iadd, 1), (.putfield 194, 3), (.aload_n 0, 1), (.getfield 194, 3), (.iconst 1, 1), (.isub, 1), (.ireturn, 1)]
  | _ => []
def uX10_numberOf : Nat → Option (List Bool)
  | 2 => some [true, true, true]
  | _ => none
def aX10_numberOf : pvCa
  | _ => none
theorem bX10_numberOf_0 : bX10_numberOf 0 = [(.iconst 0, 1), (.istore_n 2, 1)] := rfl
theorem uX10_numberOf_0 : uX10_numberOf 0 = none := rfl
theorem bX10_numberOf_2 : bX10_numberOf 2 = [(.iload_n 2, 1), (.aload_n 0, 1), (.getfield 194, 3), (.if_icmp .ge 21, 3), (.aload_n 0, 1), (.getfield 42, 3), (.iload_n 2, 1), (.iaload, 1), (.iload_n 1, 1), (.if_icmp .ne 5, 3), (.iload_n 2, 1), (.ireturn, 1)] := rfl
theorem uX10_numberOf_2 : uX10_numberOf 2 = some [true, true, true] := rfl
theorem bX10_numberOf_22 : bX10_numberOf 22 = [(.iinc 2 1, 3), (.goto (-23), 3)] := rfl
theorem uX10_numberOf_22 : uX10_numberOf 22 = none := rfl
theorem bX10_numberOf_28 : bX10_numberOf 28 = [(.aload_n 0, 1), (.getfield 42, 3), (.aload_n 0, 1), (.getfield 194, 3), (.iload_n 1, 1), (.iastore, 1), (.aload_n 0, 1), (.dup, 1), (.getfield 194, 3), (.iconst 1, 1), (.iadd, 1), (.putfield 194, 3), (.aload_n 0, 1), (.getfield 194, 3), (.iconst 1, 1), (.isub, 1), (.ireturn, 1)] := rfl
theorem uX10_numberOf_28 : uX10_numberOf 28 = none := rfl
def mX10_numberOf : Room := { frames := 0, cells := 1, slots := 6, locals := 0 }
set_option maxRecDepth 100000 in
set_option maxHeartbeats 4000000 in
theorem okX10_numberOf : pvOkM fX10 aX10_numberOf kX10 eX10 (some .int) bX10_numberOf uX10_numberOf 3 C_X10_numberOf := by
  intro Q SW hc as z h hS hz
  unfold C_X10_numberOf at h
  split at h
  · rename_i id x
    obtain ⟨rfl, L, ⟨c1, c2, c3, c4⟩, h1, h2⟩ := h
    refine ⟨Nat.le_of_ble_eq_true rfl, ?_⟩
    have el : ∀ i, i < L.length → z.1 49 i = ndF L i := fun i hi => by rw [← liF_nd (f := z.1 49) hi, c2]
    have loop : ∀ (m k : Nat), k + m = L.length → (∀ j, j < k → ndF L j ≠ x) → SW 2 [some (vR 39), some (vI x), some (vI (k : Int))] z := by
      intro m
      induction m using Nat.strongRecOn with
      | _ m ih =>
        intro k hk hf
        refine hc 20 _ _ _ fun _ _ => ?_
        simp only [pvSt1]
        by_cases hx : L.length ≤ k
        · have hn : x ∉ L := fun hm => by
            obtain ⟨a, b⟩ := ixN_lt hm
            exact hf _ (by omega) b
          have hlt := c4 hn
          have q9 := h2 hn (pvUp (pvUp z.1 49 L.length x) 39 18 ((L.length : Int) + 1), z.2) (by (repeat' first | assumption | exact frF_0 | (refine frF_u ?_ (by decide)) | (refine frF_s ?_ (by decide)) | (refine frF_l ?_ (by decide)))) (fun j hj => by simp (disch := omega) only [pvUp_ap, if_neg]) (by simp [pvUp_ap]) (by
            rw [List.length_append, List.length_singleton, liF_s]
            congr 1
            · conv => rhs; rw [← c2]
              refine liF_e fun i hi => ?_
              simp (disch := omega) only [pvUp_ap, if_neg]
            · simp [pvUp_ap])
          rw [show ((L.length : Int)) = (L.length : Int) + 1 - 1 by omega] at q9
          simp only [c1, pvE_iconst, pvE_istore_n2, pvS1, List.length_cons, List.length_nil, pvClr_i, pvClr_r, pvClr_l, pvClr_d, pvClr_f, pvClr_n, pvE_iload_n2, pvLI_s, pvLd, pvE_aload_n0, pvLA_s, pvE_getfield, pvGf_0, pvGf_1, pvGf_2, fX10_194, pvSh_0, pvSh_1, pvSh_2, pvSh_3, pvSh_4, pvSh_5, pvSh_6, pvSh_7, pvSh_8, pvSh_9, pvSh_10, pvSh_11, pvSh_12, pvSh_13, pvSh_14, pvSh_15, pvSh_16, pvSh_17, pvSh_18, pvSh_19, pvSh_20, pvSh_21, pvSh_22, pvSh_23, pvSh_24, pvSh_25, pvSh_26, pvSh_27, pvSh_28, pvSh_29, pvSh_30, pvSh_31, pvSh_32, pvSh_33, pvSh_34, pvSh_35, pvSh_36, pvSh_37, pvSh_38, pvSh_39, pvSh_40, pvSh_41, pvSh_42, pvSh_43, pvSh_44, pvSh_45, pvSh_46, pvSh_47, pvSh_48, pvSh_49, pvSh_50, pvSh_51, pvSh_52, pvSh_53, pvSh_54, pvSh_55, pvSh_56, pvSh_57, pvSh_58, pvSh_59, pvRf_0_0, pvRf_0_1, pvRf_0_2, pvRf_0_3, pvRf_0_4, pvRf_0_5, pvRf_0_6, pvRf_0_7, pvRf_0_8, pvRf_0_9, pvRf_0_10, pvRf_1_0, pvRf_3_0, pvRf_5_0, pvRf_5_1, pvRf_5_2, pvRf_9_0, pvRf_9_1, pvRf_9_2, pvRf_13_0, pvRf_13_1, pvRf_13_2, pvRf_17_0, pvRf_17_2, pvRf_20_0, pvRf_20_1, pvRf_20_2, pvRf_24_0, pvRf_24_1, pvRf_24_2, pvRf_28_0, pvRf_28_1, pvRf_28_2, pvRf_28_3, pvRf_33_0, pvRf_33_1, pvRf_36_0, pvRf_36_1, pvRf_39_0, pvRf_39_1, pvRf_39_2, pvRf_39_5, pvRf_39_6, pvRf_39_9, pvRf_39_13, pvRf_39_15, pvRf_39_16, pvRf_39_17, pvRf_39_19, pvRf_39_20, pvRf_39_22, pvRf_39_23, pvRf_39_24, pvRf_39_25, pvRf_39_29, pvRf_39_30, pvE_icmp_ge, fX10_42, pvE_iaload, pvAI, pvE_iload_n1, pvE_icmp_ne, pvE_ireturn, pvE_iinc, pvIc_s, pvE_goto, pvE_iastore, pvE_dup_i, pvE_dup_r, pvE_iadd, pvE_putfield, pvPf_0, pvPf_1, pvE_isub, bX10_numberOf_0, uX10_numberOf_0, bX10_numberOf_2, uX10_numberOf_2, bX10_numberOf_22, uX10_numberOf_22, bX10_numberOf_28, uX10_numberOf_28, pvMk_t, pvMk_f, pvMk_n, pvRecv_r, pvUp_nl, pvUp_same, pvUp_ap, pvSt_ap, pvX_c, pvX_ms, pvX_mn, pvE_nil, pvEn_i, pvEn_r, pvEn_l, pvEn_0, pvEn_s, pvRt, pvRv, pvTh, pvKc, pvGo, pvTgt, Int.toNat_natCast, false_and, and_false, true_and, and_true, if_true, if_false, reduceIte, reduceCtorEq, forall_const, false_or, or_false, true_or, or_true, ne_eq, not_true_eq_false, not_false_eq_true, implies_true, false_implies, Nat.reduceAdd, Nat.reduceSub, Nat.reduceMul, Nat.reduceEqDiff, Nat.reduceLT, Nat.reduceLeDiff, Int.reduceAdd, Int.reduceSub, Int.reduceMul, Int.reduceNeg, Int.reduceToNat, Int.reduceLE, Int.reduceLT, Int.reduceEq, Int.reduceNe, and_self]
          (repeat' first | with_reducible apply And.intro | with_reducible intro _)
          all_goals first
            | omega
            | (rw [show (L.length : Int) + 1 - 1 = (L.length : Int) + 1 - 1 + 1 - 1 by omega]; exact q9)
            | (simp only [show (L.length : Int) + 1 - 1 = (L.length : Int) by omega] at q9 ⊢; exact q9)
        · have ek := el k (by omega)
          simp only [c1, ek, pvE_iconst, pvE_istore_n2, pvS1, List.length_cons, List.length_nil, pvClr_i, pvClr_r, pvClr_l, pvClr_d, pvClr_f, pvClr_n, pvE_iload_n2, pvLI_s, pvLd, pvE_aload_n0, pvLA_s, pvE_getfield, pvGf_0, pvGf_1, pvGf_2, fX10_194, pvSh_0, pvSh_1, pvSh_2, pvSh_3, pvSh_4, pvSh_5, pvSh_6, pvSh_7, pvSh_8, pvSh_9, pvSh_10, pvSh_11, pvSh_12, pvSh_13, pvSh_14, pvSh_15, pvSh_16, pvSh_17, pvSh_18, pvSh_19, pvSh_20, pvSh_21, pvSh_22, pvSh_23, pvSh_24, pvSh_25, pvSh_26, pvSh_27, pvSh_28, pvSh_29, pvSh_30, pvSh_31, pvSh_32, pvSh_33, pvSh_34, pvSh_35, pvSh_36, pvSh_37, pvSh_38, pvSh_39, pvSh_40, pvSh_41, pvSh_42, pvSh_43, pvSh_44, pvSh_45, pvSh_46, pvSh_47, pvSh_48, pvSh_49, pvSh_50, pvSh_51, pvSh_52, pvSh_53, pvSh_54, pvSh_55, pvSh_56, pvSh_57, pvSh_58, pvSh_59, pvRf_0_0, pvRf_0_1, pvRf_0_2, pvRf_0_3, pvRf_0_4, pvRf_0_5, pvRf_0_6, pvRf_0_7, pvRf_0_8, pvRf_0_9, pvRf_0_10, pvRf_1_0, pvRf_3_0, pvRf_5_0, pvRf_5_1, pvRf_5_2, pvRf_9_0, pvRf_9_1, pvRf_9_2, pvRf_13_0, pvRf_13_1, pvRf_13_2, pvRf_17_0, pvRf_17_2, pvRf_20_0, pvRf_20_1, pvRf_20_2, pvRf_24_0, pvRf_24_1, pvRf_24_2, pvRf_28_0, pvRf_28_1, pvRf_28_2, pvRf_28_3, pvRf_33_0, pvRf_33_1, pvRf_36_0, pvRf_36_1, pvRf_39_0, pvRf_39_1, pvRf_39_2, pvRf_39_5, pvRf_39_6, pvRf_39_9, pvRf_39_13, pvRf_39_15, pvRf_39_16, pvRf_39_17, pvRf_39_19, pvRf_39_20, pvRf_39_22, pvRf_39_23, pvRf_39_24, pvRf_39_25, pvRf_39_29, pvRf_39_30, pvE_icmp_ge, fX10_42, pvE_iaload, pvAI, pvE_iload_n1, pvE_icmp_ne, pvE_ireturn, pvE_iinc, pvIc_s, pvE_goto, pvE_iastore, pvE_dup_i, pvE_dup_r, pvE_iadd, pvE_putfield, pvPf_0, pvPf_1, pvE_isub, bX10_numberOf_0, uX10_numberOf_0, bX10_numberOf_2, uX10_numberOf_2, bX10_numberOf_22, uX10_numberOf_22, bX10_numberOf_28, uX10_numberOf_28, pvMk_t, pvMk_f, pvMk_n, pvRecv_r, pvUp_nl, pvUp_same, pvUp_ap, pvSt_ap, pvX_c, pvX_ms, pvX_mn, pvE_nil, pvEn_i, pvEn_r, pvEn_l, pvEn_0, pvEn_s, pvRt, pvRv, pvTh, pvKc, pvGo, pvTgt, Int.toNat_natCast, false_and, and_false, true_and, and_true, if_true, if_false, reduceIte, reduceCtorEq, forall_const, false_or, or_false, true_or, or_true, ne_eq, not_true_eq_false, not_false_eq_true, implies_true, false_implies, Nat.reduceAdd, Nat.reduceSub, Nat.reduceMul, Nat.reduceEqDiff, Nat.reduceLT, Nat.reduceLeDiff, Int.reduceAdd, Int.reduceSub, Int.reduceMul, Int.reduceNeg, Int.reduceToNat, Int.reduceLE, Int.reduceLT, Int.reduceEq, Int.reduceNe, and_self]
          by_cases e : ndF L k = x
          · have q9 := h1 (by rw [← e]; exact ndF_m (by omega))
            have ei : ixF L x = k := by
              unfold ixF
              rw [if_pos (by rw [← e]; exact ndF_m (by omega)), ixN_first (by omega) e hf]
            rw [ei] at q9
            (repeat' first | with_reducible apply And.intro | with_reducible intro _)
            all_goals first
              | omega
              | contradiction
              | exact q9
          · have q9 := ih (m - 1) (by omega) (k + 1) (by omega) (fun j hj => by
              by_cases ej : j = k
              · subst ej; exact e
              · exact hf j (by omega))
            (repeat' first | with_reducible apply And.intro | with_reducible intro _)
            all_goals first
              | omega
              | contradiction
              | exact q9
    refine hc 20 _ _ _ fun _ _ => ?_
    simp only [pvSt1]
    simp only [pvE_iconst, pvE_istore_n2, pvS1, List.length_cons, List.length_nil, pvClr_i, pvClr_r, pvClr_l, pvClr_d, pvClr_f, pvClr_n, pvE_iload_n2, pvLI_s, pvLd, pvE_aload_n0, pvLA_s, pvE_getfield, pvGf_0, pvGf_1, pvGf_2, fX10_194, pvSh_0, pvSh_1, pvSh_2, pvSh_3, pvSh_4, pvSh_5, pvSh_6, pvSh_7, pvSh_8, pvSh_9, pvSh_10, pvSh_11, pvSh_12, pvSh_13, pvSh_14, pvSh_15, pvSh_16, pvSh_17, pvSh_18, pvSh_19, pvSh_20, pvSh_21, pvSh_22, pvSh_23, pvSh_24, pvSh_25, pvSh_26, pvSh_27, pvSh_28, pvSh_29, pvSh_30, pvSh_31, pvSh_32, pvSh_33, pvSh_34, pvSh_35, pvSh_36, pvSh_37, pvSh_38, pvSh_39, pvSh_40, pvSh_41, pvSh_42, pvSh_43, pvSh_44, pvSh_45, pvSh_46, pvSh_47, pvSh_48, pvSh_49, pvSh_50, pvSh_51, pvSh_52, pvSh_53, pvSh_54, pvSh_55, pvSh_56, pvSh_57, pvSh_58, pvSh_59, pvRf_0_0, pvRf_0_1, pvRf_0_2, pvRf_0_3, pvRf_0_4, pvRf_0_5, pvRf_0_6, pvRf_0_7, pvRf_0_8, pvRf_0_9, pvRf_0_10, pvRf_1_0, pvRf_3_0, pvRf_5_0, pvRf_5_1, pvRf_5_2, pvRf_9_0, pvRf_9_1, pvRf_9_2, pvRf_13_0, pvRf_13_1, pvRf_13_2, pvRf_17_0, pvRf_17_2, pvRf_20_0, pvRf_20_1, pvRf_20_2, pvRf_24_0, pvRf_24_1, pvRf_24_2, pvRf_28_0, pvRf_28_1, pvRf_28_2, pvRf_28_3, pvRf_33_0, pvRf_33_1, pvRf_36_0, pvRf_36_1, pvRf_39_0, pvRf_39_1, pvRf_39_2, pvRf_39_5, pvRf_39_6, pvRf_39_9, pvRf_39_13, pvRf_39_15, pvRf_39_16, pvRf_39_17, pvRf_39_19, pvRf_39_20, pvRf_39_22, pvRf_39_23, pvRf_39_24, pvRf_39_25, pvRf_39_29, pvRf_39_30, pvE_icmp_ge, fX10_42, pvE_iaload, pvAI, pvE_iload_n1, pvE_icmp_ne, pvE_ireturn, pvE_iinc, pvIc_s, pvE_goto, pvE_iastore, pvE_dup_i, pvE_dup_r, pvE_iadd, pvE_putfield, pvPf_0, pvPf_1, pvE_isub, bX10_numberOf_0, uX10_numberOf_0, bX10_numberOf_2, uX10_numberOf_2, bX10_numberOf_22, uX10_numberOf_22, bX10_numberOf_28, uX10_numberOf_28, pvMk_t, pvMk_f, pvMk_n, pvRecv_r, pvUp_nl, pvUp_same, pvUp_ap, pvSt_ap, pvX_c, pvX_ms, pvX_mn, pvE_nil, pvEn_i, pvEn_r, pvEn_l, pvEn_0, pvEn_s, pvRt, pvRv, pvTh, pvKc, pvGo, pvTgt, Int.toNat_natCast, false_and, and_false, true_and, and_true, if_true, if_false, reduceIte, reduceCtorEq, forall_const, false_or, or_false, true_or, or_true, ne_eq, not_true_eq_false, not_false_eq_true, implies_true, false_implies, Nat.reduceAdd, Nat.reduceSub, Nat.reduceMul, Nat.reduceEqDiff, Nat.reduceLT, Nat.reduceLeDiff, Int.reduceAdd, Int.reduceSub, Int.reduceMul, Int.reduceNeg, Int.reduceToNat, Int.reduceLE, Int.reduceLT, Int.reduceEq, Int.reduceNe, and_self]
    (repeat' first | with_reducible apply And.intro | with_reducible intro _)
    all_goals first
      | omega
      | exact loop L.length 0 (by omega) (fun j hj => absurd hj (Nat.not_lt_zero _))
  · exact h.elim
/-- what the reference holds of a list of sets -/
def rsL (z : pvM) (L : List Int) : Prop := z.1 39 18 = L.length ∧ liF (z.1 49) L.length = L
def C_X10_determines : pvC
  | [.inr (.inr (.inl id)), .inl s], z, Q => id = 39 ∧ ((0 ≤ s ∧ s ≤ 1) ∧ ∀ s : Int, 0 ≤ s ∧ s ≤ 1 → WfA (autR (z.1 40) s)) ∧
      ∀ z' : pvM, frF [39, 48, 49] [] z z' → (∀ j, j ≠ 18 → z'.1 39 j = z.1 39 j) → rsL z' (dsF (autR (z.1 40) s)) → ldP (z'.1 48) s (autR (z.1 40) s) → Q (.inl none) z'
  | _, _, _ => False
def bX10_determines : Nat → List (Instr × Nat)
  | 0 => [(.aload_n 0, 1), (.invokevirtual 197, 3), (.aload_n 0, 1), (.iconst 0, 1), (.putfield 194, 3), (.aload_n 0, 1), (.aload_n 0, 1), (.getfield 7, 3), (.sipush 163, 3), (.iload_n 1, 1), (.imul, 1), (.iaload, 1), (.invokevirtual 200, 3), (.pop, 1), (.iconst 0, 1), (.istore_n 2, 1)]
  | 26 => [(.iload_n 2, 1), (.aload_n 0, 1), (.getfield 194, 3), (.if_icmp .ge 50, 3), (.iconst 0, 1), (.istore_n 3, 1)]
  | 36 => [(.iload_n 3, 1), (.sipush 648, 3), (.if_icmp .ge 35, 3), (.aload_n 0, 1), (.aload_n 0, 1), (.iload_n 1, 1), (.aload_n 0, 1), (.getfield 42, 3), (.iload_n 2, 1), (.iaload, 1), (.iload_n 3, 1), (.sipush 216, 3), (.idiv, 1), (.iload_n 3, 1), (.sipush 216, 3), (.irem, 1), (.invokevirtual 203, 3), (.invokevirtual 200, 3), (.pop, 1), (.iinc 3 1, 3), (.goto (-36), 3)]
  | 75 => [(.iinc 2 1, 3), (.goto (-52), 3)]
  | 81 => [(.return_, 1)]
  | _ => []
def uX10_determines : Nat → Option (List Bool)
  | 26 => some [true, true, true, false]
  | 36 => some [true, true, true, true]
  | _ => none
def aX10_determines : pvCa
  | 197 => some (1, false, 9, 0, C_X10_laysLeads)
  | 200 => some (2, false, 9, 0, C_X10_numberOf)
  | 203 => some (5, false, 9, 0, C_X10_steps)
  | _ => none
theorem bX10_determines_0 : bX10_determines 0 = [(.aload_n 0, 1), (.invokevirtual 197, 3), (.aload_n 0, 1), (.iconst 0, 1), (.putfield 194, 3), (.aload_n 0, 1), (.aload_n 0, 1), (.getfield 7, 3), (.sipush 163, 3), (.iload_n 1, 1), (.imul, 1), (.iaload, 1), (.invokevirtual 200, 3), (.pop, 1), (.iconst 0, 1), (.istore_n 2, 1)] := rfl
theorem uX10_determines_0 : uX10_determines 0 = none := rfl
theorem bX10_determines_26 : bX10_determines 26 = [(.iload_n 2, 1), (.aload_n 0, 1), (.getfield 194, 3), (.if_icmp .ge 50, 3), (.iconst 0, 1), (.istore_n 3, 1)] := rfl
theorem uX10_determines_26 : uX10_determines 26 = some [true, true, true, false] := rfl
theorem bX10_determines_36 : bX10_determines 36 = [(.iload_n 3, 1), (.sipush 648, 3), (.if_icmp .ge 35, 3), (.aload_n 0, 1), (.aload_n 0, 1), (.iload_n 1, 1), (.aload_n 0, 1), (.getfield 42, 3), (.iload_n 2, 1), (.iaload, 1), (.iload_n 3, 1), (.sipush 216, 3), (.idiv, 1), (.iload_n 3, 1), (.sipush 216, 3), (.irem, 1), (.invokevirtual 203, 3), (.invokevirtual 200, 3), (.pop, 1), (.iinc 3 1, 3), (.goto (-36), 3)] := rfl
theorem uX10_determines_36 : uX10_determines 36 = some [true, true, true, true] := rfl
theorem bX10_determines_75 : bX10_determines 75 = [(.iinc 2 1, 3), (.goto (-52), 3)] := rfl
theorem uX10_determines_75 : uX10_determines 75 = none := rfl
theorem bX10_determines_81 : bX10_determines 81 = [(.return_, 1)] := rfl
theorem uX10_determines_81 : uX10_determines 81 = none := rfl
theorem aX10_determines_197 : aX10_determines 197 = some (1, false, 9, 0, C_X10_laysLeads) := rfl
theorem aX10_determines_200 : aX10_determines 200 = some (2, false, 9, 0, C_X10_numberOf) := rfl
theorem aX10_determines_203 : aX10_determines 203 = some (5, false, 9, 0, C_X10_steps) := rfl
def mX10_determines : Room := { frames := 3, cells := 1, slots := 6, locals := 71 }
set_option maxRecDepth 100000 in
set_option maxHeartbeats 4000000 in
theorem okX10_determines : pvOkM fX10 aX10_determines kX10 eX10 none bX10_determines uX10_determines 4 C_X10_determines := by
  intro Q SW hc as z h hS hz
  unfold C_X10_determines at h
  split at h
  · rename_i id s
    obtain ⟨rfl, ⟨hs, hws⟩, h2⟩ := h
    refine ⟨Nat.le_of_ble_eq_true rfl, ?_⟩
    have hw := hws s hs
    have gi : z.1 40 (163 * s).toNat = (autR (z.1 40) s).2.1 := rS_i hs.1 rfl
    obtain ⟨A, eA⟩ : ∃ A, autR (z.1 40) s = A := ⟨_, rfl⟩
    rw [eA] at hw gi h2
    have outer : ∀ (m i : Nat) (z' : pvM), i + m = 16 → frF [39, 48, 49] [] z z' → (∀ j, j ≠ 18 → z'.1 39 j = z.1 39 j) → rsL z' (dsO A i) → ldP (z'.1 48) s A →
        SW 26 [some (vR 39), some (vI s), some (vI (i : Int)), none] z' := by
      intro m
      induction m using Nat.strongRecOn with
      | _ m ih =>
        intro i z' hi16 f1 k1 c1 l1
        have hok := dsO_ok hw i
        have h16 := okL_len hok
        have ec := c1.1
        have mid : i < (dsO A i).length → ∀ (mk k : Nat) (z' : pvM), k + mk = 648 → frF [39, 48, 49] [] z z' → (∀ j, j ≠ 18 → z'.1 39 j = z.1 39 j) → rsL z' (dsR A (ndF (dsO A i) i) k (dsO A i)) → ldP (z'.1 48) s A →
            SW 36 [some (vR 39), some (vI s), some (vI (i : Int)), some (vI (k : Int))] z' := by
          intro hil mk
          induction mk using Nat.strongRecOn with
          | _ mk ihk =>
            intro k z' hk f1 k1 c1 l1
            refine hc 20 _ _ _ fun _ _ => ?_
            by_cases hx : 648 ≤ k
            · have q9 := ih (m - 1) (by omega) (i + 1) z' (by omega) f1 k1 (by
                simp only [dsO]
                rw [if_pos hil, show 648 = k by omega]
                exact c1) l1
              simp only [pvSt1]
              simp only [C_X10_steps, C_X10_numberOf, pvE_aload_n0, pvLA_s, pvLd, pvE_invokevirtual, pvC1_s, pvC2_s, pvAf_v, pvAf_x, pvPop, pvCs, pvCat, pvPush, aX10_determines_197, pvSh_0, pvSh_1, pvSh_2, pvSh_3, pvSh_4, pvSh_5, pvSh_6, pvSh_7, pvSh_8, pvSh_9, pvSh_10, pvSh_11, pvSh_12, pvSh_13, pvSh_14, pvSh_15, pvSh_16, pvSh_17, pvSh_18, pvSh_19, pvSh_20, pvSh_21, pvSh_22, pvSh_23, pvSh_24, pvSh_25, pvSh_26, pvSh_27, pvSh_28, pvSh_29, pvSh_30, pvSh_31, pvSh_32, pvSh_33, pvSh_34, pvSh_35, pvSh_36, pvSh_37, pvSh_38, pvSh_39, pvSh_40, pvSh_41, pvSh_42, pvSh_43, pvSh_44, pvSh_45, pvSh_46, pvSh_47, pvSh_48, pvSh_49, pvSh_50, pvSh_51, pvSh_52, pvSh_53, pvSh_54, pvSh_55, pvSh_56, pvSh_57, pvSh_58, pvSh_59, pvE_iconst, pvE_putfield, pvPf_0, pvPf_1, fX10_194, pvE_getfield, pvGf_0, pvGf_1, pvGf_2, fX10_7, pvRf_0_0, pvRf_0_1, pvRf_0_2, pvRf_0_3, pvRf_0_4, pvRf_0_5, pvRf_0_6, pvRf_0_7, pvRf_0_8, pvRf_0_9, pvRf_0_10, pvRf_1_0, pvRf_3_0, pvRf_5_0, pvRf_5_1, pvRf_5_2, pvRf_9_0, pvRf_9_1, pvRf_9_2, pvRf_13_0, pvRf_13_1, pvRf_13_2, pvRf_17_0, pvRf_17_2, pvRf_20_0, pvRf_20_1, pvRf_20_2, pvRf_24_0, pvRf_24_1, pvRf_24_2, pvRf_28_0, pvRf_28_1, pvRf_28_2, pvRf_28_3, pvRf_33_0, pvRf_33_1, pvRf_36_0, pvRf_36_1, pvRf_39_0, pvRf_39_1, pvRf_39_2, pvRf_39_5, pvRf_39_6, pvRf_39_9, pvRf_39_13, pvRf_39_15, pvRf_39_16, pvRf_39_17, pvRf_39_19, pvRf_39_20, pvRf_39_22, pvRf_39_23, pvRf_39_24, pvRf_39_25, pvRf_39_29, pvRf_39_30, pvE_sipush, pvE_iload_n1, pvLI_s, pvE_imul, pvE_iaload, pvAI, aX10_determines_200, pvE_pop_i, pvE_pop_r, pvE_istore_n2, pvS1, List.length_cons, List.length_nil, pvClr_i, pvClr_r, pvClr_l, pvClr_d, pvClr_f, pvClr_n, pvE_iload_n2, pvE_icmp_ge, pvE_istore_n3, pvE_iload_n3, fX10_42, pvE_idiv, pvE_irem, aX10_determines_203, pvE_iinc, pvIc_s, pvE_goto, pvE_return, bX10_determines_0, uX10_determines_0, bX10_determines_26, uX10_determines_26, bX10_determines_36, uX10_determines_36, bX10_determines_75, uX10_determines_75, bX10_determines_81, uX10_determines_81, pvMk_t, pvMk_f, pvMk_n, pvRecv_r, pvUp_nl, pvUp_same, pvUp_ap, pvSt_ap, pvX_c, pvX_ms, pvX_mn, pvE_nil, pvEn_i, pvEn_r, pvEn_l, pvEn_0, pvEn_s, pvRt, pvRv, pvTh, pvKc, pvGo, pvTgt, Int.toNat_natCast, false_and, and_false, true_and, and_true, if_true, if_false, reduceIte, reduceCtorEq, forall_const, false_or, or_false, true_or, or_true, ne_eq, not_true_eq_false, not_false_eq_true, implies_true, false_implies, Nat.reduceAdd, Nat.reduceSub, Nat.reduceMul, Nat.reduceEqDiff, Nat.reduceLT, Nat.reduceLeDiff, Int.reduceAdd, Int.reduceSub, Int.reduceMul, Int.reduceNeg, Int.reduceToNat, Int.reduceLE, Int.reduceLT, Int.reduceEq, Int.reduceNe, and_self]
              (repeat' first | with_reducible apply And.intro | with_reducible intro _)
              all_goals first
                | omega
                | exact q9
            · have hokr := dsR_ok hw (ndF (dsO A i) i) hok k
              have hr16 := okL_len hokr
              have g40 := f1.1 40 (by decide)
              obtain ⟨M, eM⟩ := dsR_p A (ndF (dsO A i) i) (dsO A i) k
              have es : z'.1 49 i = ndF (dsO A i) i := by
                have hl : i < (dsR A (ndF (dsO A i) i) k (dsO A i)).length := by rw [eM, List.length_append]; omega
                rw [← liF_nd (f := z'.1 49) hl, c1.2]
                rw [eM, ndF_a hil]
              have es15 := hok.2 _ (ndF_m hil)
              have hsb := sbF_r hw (ndF (dsO A i) i) ((k : Int) / 216) ((k : Int) % 216)
              have en : dsR A (ndF (dsO A i) i) (k + 1) (dsO A i) = insF (dsR A (ndF (dsO A i) i) k (dsO A i)) (sbF A (ndF (dsO A i) i) ((k : Int) / 216) ((k : Int) % 216)) := by
                simp only [dsR]
                rw [Int.natCast_ediv, Int.natCast_emod]
                rfl
              simp only [pvSt1]
              simp only [C_X10_steps, C_X10_numberOf, g40, eA, es, pvE_aload_n0, pvLA_s, pvLd, pvE_invokevirtual, pvC1_s, pvC2_s, pvAf_v, pvAf_x, pvPop, pvCs, pvCat, pvPush, aX10_determines_197, pvSh_0, pvSh_1, pvSh_2, pvSh_3, pvSh_4, pvSh_5, pvSh_6, pvSh_7, pvSh_8, pvSh_9, pvSh_10, pvSh_11, pvSh_12, pvSh_13, pvSh_14, pvSh_15, pvSh_16, pvSh_17, pvSh_18, pvSh_19, pvSh_20, pvSh_21, pvSh_22, pvSh_23, pvSh_24, pvSh_25, pvSh_26, pvSh_27, pvSh_28, pvSh_29, pvSh_30, pvSh_31, pvSh_32, pvSh_33, pvSh_34, pvSh_35, pvSh_36, pvSh_37, pvSh_38, pvSh_39, pvSh_40, pvSh_41, pvSh_42, pvSh_43, pvSh_44, pvSh_45, pvSh_46, pvSh_47, pvSh_48, pvSh_49, pvSh_50, pvSh_51, pvSh_52, pvSh_53, pvSh_54, pvSh_55, pvSh_56, pvSh_57, pvSh_58, pvSh_59, pvE_iconst, pvE_putfield, pvPf_0, pvPf_1, fX10_194, pvE_getfield, pvGf_0, pvGf_1, pvGf_2, fX10_7, pvRf_0_0, pvRf_0_1, pvRf_0_2, pvRf_0_3, pvRf_0_4, pvRf_0_5, pvRf_0_6, pvRf_0_7, pvRf_0_8, pvRf_0_9, pvRf_0_10, pvRf_1_0, pvRf_3_0, pvRf_5_0, pvRf_5_1, pvRf_5_2, pvRf_9_0, pvRf_9_1, pvRf_9_2, pvRf_13_0, pvRf_13_1, pvRf_13_2, pvRf_17_0, pvRf_17_2, pvRf_20_0, pvRf_20_1, pvRf_20_2, pvRf_24_0, pvRf_24_1, pvRf_24_2, pvRf_28_0, pvRf_28_1, pvRf_28_2, pvRf_28_3, pvRf_33_0, pvRf_33_1, pvRf_36_0, pvRf_36_1, pvRf_39_0, pvRf_39_1, pvRf_39_2, pvRf_39_5, pvRf_39_6, pvRf_39_9, pvRf_39_13, pvRf_39_15, pvRf_39_16, pvRf_39_17, pvRf_39_19, pvRf_39_20, pvRf_39_22, pvRf_39_23, pvRf_39_24, pvRf_39_25, pvRf_39_29, pvRf_39_30, pvE_sipush, pvE_iload_n1, pvLI_s, pvE_imul, pvE_iaload, pvAI, aX10_determines_200, pvE_pop_i, pvE_pop_r, pvE_istore_n2, pvS1, List.length_cons, List.length_nil, pvClr_i, pvClr_r, pvClr_l, pvClr_d, pvClr_f, pvClr_n, pvE_iload_n2, pvE_icmp_ge, pvE_istore_n3, pvE_iload_n3, fX10_42, pvE_idiv, pvE_irem, aX10_determines_203, pvE_iinc, pvIc_s, pvE_goto, pvE_return, bX10_determines_0, uX10_determines_0, bX10_determines_26, uX10_determines_26, bX10_determines_36, uX10_determines_36, bX10_determines_75, uX10_determines_75, bX10_determines_81, uX10_determines_81, pvMk_t, pvMk_f, pvMk_n, pvRecv_r, pvUp_nl, pvUp_same, pvUp_ap, pvSt_ap, pvX_c, pvX_ms, pvX_mn, pvE_nil, pvEn_i, pvEn_r, pvEn_l, pvEn_0, pvEn_s, pvRt, pvRv, pvTh, pvKc, pvGo, pvTgt, Int.toNat_natCast, false_and, and_false, true_and, and_true, if_true, if_false, reduceIte, reduceCtorEq, forall_const, false_or, or_false, true_or, or_true, ne_eq, not_true_eq_false, not_false_eq_true, implies_true, false_implies, Nat.reduceAdd, Nat.reduceSub, Nat.reduceMul, Nat.reduceEqDiff, Nat.reduceLT, Nat.reduceLeDiff, Int.reduceAdd, Int.reduceSub, Int.reduceMul, Int.reduceNeg, Int.reduceToNat, Int.reduceLE, Int.reduceLT, Int.reduceEq, Int.reduceNe, and_self]
              have nxt : ∀ z1 : pvM, frF [39, 48, 49] [] z z1 → (∀ j, j ≠ 18 → z1.1 39 j = z.1 39 j) → rsL z1 (insF (dsR A (ndF (dsO A i) i) k (dsO A i)) (sbF A (ndF (dsO A i) i) ((k : Int) / 216) ((k : Int) % 216))) → ldP (z1.1 48) s A →
                  pvR ((k : Int) + 1) ∧ SW 36 [some (vR 39), some (vI s), some (vI (i : Int)), some (vI ((k : Int) + 1))] z1 := fun z1 a b c d => ⟨by omega, ihk (mk - 1) (by omega) (k + 1) z1 (by omega) a b (by rw [en]; exact c) d⟩
              (repeat' first | with_reducible apply And.intro | with_reducible intro _)
              all_goals first
                | omega
                | assumption
                | exact q9
                | skip
              all_goals
                refine ⟨_, ⟨c1.1, c1.2, hr16, fun hn => okL_lt hokr hsb hn⟩, fun hm => ?_, fun hn z1 f2 k2 c2 c3 => ?_⟩
                · have := nxt z' f1 k1 (by unfold insF; rw [if_pos hm]; exact c1) l1
                  first
                    | exact this
                    | exact ⟨by decide, this⟩
                · have := nxt z1 (frF_t f1 f2 (by decide) (by decide)) (fun j hj => by rw [k2 j hj, k1 j hj]) (by unfold insF; rw [if_neg hn]; exact ⟨c2, c3⟩) (by rw [f2.1 48 (by decide)]; exact l1)
                  first
                    | exact this
                    | exact ⟨by decide, this⟩
        refine hc 20 _ _ _ fun _ _ => ?_
        simp only [pvSt1]
        simp only [ec, pvE_aload_n0, pvLA_s, pvLd, pvE_invokevirtual, pvC1_s, pvC2_s, pvAf_v, pvAf_x, pvPop, pvCs, pvCat, pvPush, aX10_determines_197, pvSh_0, pvSh_1, pvSh_2, pvSh_3, pvSh_4, pvSh_5, pvSh_6, pvSh_7, pvSh_8, pvSh_9, pvSh_10, pvSh_11, pvSh_12, pvSh_13, pvSh_14, pvSh_15, pvSh_16, pvSh_17, pvSh_18, pvSh_19, pvSh_20, pvSh_21, pvSh_22, pvSh_23, pvSh_24, pvSh_25, pvSh_26, pvSh_27, pvSh_28, pvSh_29, pvSh_30, pvSh_31, pvSh_32, pvSh_33, pvSh_34, pvSh_35, pvSh_36, pvSh_37, pvSh_38, pvSh_39, pvSh_40, pvSh_41, pvSh_42, pvSh_43, pvSh_44, pvSh_45, pvSh_46, pvSh_47, pvSh_48, pvSh_49, pvSh_50, pvSh_51, pvSh_52, pvSh_53, pvSh_54, pvSh_55, pvSh_56, pvSh_57, pvSh_58, pvSh_59, pvE_iconst, pvE_putfield, pvPf_0, pvPf_1, fX10_194, pvE_getfield, pvGf_0, pvGf_1, pvGf_2, fX10_7, pvRf_0_0, pvRf_0_1, pvRf_0_2, pvRf_0_3, pvRf_0_4, pvRf_0_5, pvRf_0_6, pvRf_0_7, pvRf_0_8, pvRf_0_9, pvRf_0_10, pvRf_1_0, pvRf_3_0, pvRf_5_0, pvRf_5_1, pvRf_5_2, pvRf_9_0, pvRf_9_1, pvRf_9_2, pvRf_13_0, pvRf_13_1, pvRf_13_2, pvRf_17_0, pvRf_17_2, pvRf_20_0, pvRf_20_1, pvRf_20_2, pvRf_24_0, pvRf_24_1, pvRf_24_2, pvRf_28_0, pvRf_28_1, pvRf_28_2, pvRf_28_3, pvRf_33_0, pvRf_33_1, pvRf_36_0, pvRf_36_1, pvRf_39_0, pvRf_39_1, pvRf_39_2, pvRf_39_5, pvRf_39_6, pvRf_39_9, pvRf_39_13, pvRf_39_15, pvRf_39_16, pvRf_39_17, pvRf_39_19, pvRf_39_20, pvRf_39_22, pvRf_39_23, pvRf_39_24, pvRf_39_25, pvRf_39_29, pvRf_39_30, pvE_sipush, pvE_iload_n1, pvLI_s, pvE_imul, pvE_iaload, pvAI, aX10_determines_200, pvE_pop_i, pvE_pop_r, pvE_istore_n2, pvS1, List.length_cons, List.length_nil, pvClr_i, pvClr_r, pvClr_l, pvClr_d, pvClr_f, pvClr_n, pvE_iload_n2, pvE_icmp_ge, pvE_istore_n3, pvE_iload_n3, fX10_42, pvE_idiv, pvE_irem, aX10_determines_203, pvE_iinc, pvIc_s, pvE_goto, pvE_return, bX10_determines_0, uX10_determines_0, bX10_determines_26, uX10_determines_26, bX10_determines_36, uX10_determines_36, bX10_determines_75, uX10_determines_75, bX10_determines_81, uX10_determines_81, pvMk_t, pvMk_f, pvMk_n, pvRecv_r, pvUp_nl, pvUp_same, pvUp_ap, pvSt_ap, pvX_c, pvX_ms, pvX_mn, pvE_nil, pvEn_i, pvEn_r, pvEn_l, pvEn_0, pvEn_s, pvRt, pvRv, pvTh, pvKc, pvGo, pvTgt, Int.toNat_natCast, false_and, and_false, true_and, and_true, if_true, if_false, reduceIte, reduceCtorEq, forall_const, false_or, or_false, true_or, or_true, ne_eq, not_true_eq_false, not_false_eq_true, implies_true, false_implies, Nat.reduceAdd, Nat.reduceSub, Nat.reduceMul, Nat.reduceEqDiff, Nat.reduceLT, Nat.reduceLeDiff, Int.reduceAdd, Int.reduceSub, Int.reduceMul, Int.reduceNeg, Int.reduceToNat, Int.reduceLE, Int.reduceLT, Int.reduceEq, Int.reduceNe, and_self]
        by_cases hil : i < (dsO A i).length
        · have q9 := mid hil 648 0 z' (by omega) f1 k1 c1 l1
          (repeat' first | with_reducible apply And.intro | with_reducible intro _)
          all_goals first
            | omega
            | exact q9
        · have q9 := h2 z' f1 k1 (by rw [dsF_stop (i := i) (by omega) (by omega)]; exact c1) l1
          (repeat' first | with_reducible apply And.intro | with_reducible intro _)
          all_goals first
            | omega
            | exact q9
    refine hc 20 _ _ _ fun _ _ => ?_
    simp only [pvSt1]
    simp only [C_X10_laysLeads, C_X10_numberOf, pvE_aload_n0, pvLA_s, pvLd, pvE_invokevirtual, pvC1_s, pvC2_s, pvAf_v, pvAf_x, pvPop, pvCs, pvCat, pvPush, aX10_determines_197, pvSh_0, pvSh_1, pvSh_2, pvSh_3, pvSh_4, pvSh_5, pvSh_6, pvSh_7, pvSh_8, pvSh_9, pvSh_10, pvSh_11, pvSh_12, pvSh_13, pvSh_14, pvSh_15, pvSh_16, pvSh_17, pvSh_18, pvSh_19, pvSh_20, pvSh_21, pvSh_22, pvSh_23, pvSh_24, pvSh_25, pvSh_26, pvSh_27, pvSh_28, pvSh_29, pvSh_30, pvSh_31, pvSh_32, pvSh_33, pvSh_34, pvSh_35, pvSh_36, pvSh_37, pvSh_38, pvSh_39, pvSh_40, pvSh_41, pvSh_42, pvSh_43, pvSh_44, pvSh_45, pvSh_46, pvSh_47, pvSh_48, pvSh_49, pvSh_50, pvSh_51, pvSh_52, pvSh_53, pvSh_54, pvSh_55, pvSh_56, pvSh_57, pvSh_58, pvSh_59, pvE_iconst, pvE_putfield, pvPf_0, pvPf_1, fX10_194, pvE_getfield, pvGf_0, pvGf_1, pvGf_2, fX10_7, pvRf_0_0, pvRf_0_1, pvRf_0_2, pvRf_0_3, pvRf_0_4, pvRf_0_5, pvRf_0_6, pvRf_0_7, pvRf_0_8, pvRf_0_9, pvRf_0_10, pvRf_1_0, pvRf_3_0, pvRf_5_0, pvRf_5_1, pvRf_5_2, pvRf_9_0, pvRf_9_1, pvRf_9_2, pvRf_13_0, pvRf_13_1, pvRf_13_2, pvRf_17_0, pvRf_17_2, pvRf_20_0, pvRf_20_1, pvRf_20_2, pvRf_24_0, pvRf_24_1, pvRf_24_2, pvRf_28_0, pvRf_28_1, pvRf_28_2, pvRf_28_3, pvRf_33_0, pvRf_33_1, pvRf_36_0, pvRf_36_1, pvRf_39_0, pvRf_39_1, pvRf_39_2, pvRf_39_5, pvRf_39_6, pvRf_39_9, pvRf_39_13, pvRf_39_15, pvRf_39_16, pvRf_39_17, pvRf_39_19, pvRf_39_20, pvRf_39_22, pvRf_39_23, pvRf_39_24, pvRf_39_25, pvRf_39_29, pvRf_39_30, pvE_sipush, pvE_iload_n1, pvLI_s, pvE_imul, pvE_iaload, pvAI, aX10_determines_200, pvE_pop_i, pvE_pop_r, pvE_istore_n2, pvS1, List.length_cons, List.length_nil, pvClr_i, pvClr_r, pvClr_l, pvClr_d, pvClr_f, pvClr_n, pvE_iload_n2, pvE_icmp_ge, pvE_istore_n3, pvE_iload_n3, fX10_42, pvE_idiv, pvE_irem, aX10_determines_203, pvE_iinc, pvIc_s, pvE_goto, pvE_return, bX10_determines_0, uX10_determines_0, bX10_determines_26, uX10_determines_26, bX10_determines_36, uX10_determines_36, bX10_determines_75, uX10_determines_75, bX10_determines_81, uX10_determines_81, pvMk_t, pvMk_f, pvMk_n, pvRecv_r, pvUp_nl, pvUp_same, pvUp_ap, pvSt_ap, pvX_c, pvX_ms, pvX_mn, pvE_nil, pvEn_i, pvEn_r, pvEn_l, pvEn_0, pvEn_s, pvRt, pvRv, pvTh, pvKc, pvGo, pvTgt, Int.toNat_natCast, false_and, and_false, true_and, and_true, if_true, if_false, reduceIte, reduceCtorEq, forall_const, false_or, or_false, true_or, or_true, ne_eq, not_true_eq_false, not_false_eq_true, implies_true, false_implies, Nat.reduceAdd, Nat.reduceSub, Nat.reduceMul, Nat.reduceEqDiff, Nat.reduceLT, Nat.reduceLeDiff, Int.reduceAdd, Int.reduceSub, Int.reduceMul, Int.reduceNeg, Int.reduceToNat, Int.reduceLE, Int.reduceLT, Int.reduceEq, Int.reduceNe, and_self]
    refine ⟨by assumption, fun z1 f1 l1 => ?_⟩
    have g40 := f1.1 40 (by decide)
    have g39 := f1.1 39 (by decide)
    rw [g40, gi]
    (repeat' first | with_reducible apply And.intro | with_reducible intro _)
    all_goals first
      | omega
      | skip
    all_goals
      refine ⟨[], ⟨by simp [pvUp_ap], rfl, by decide, fun _ => by decide⟩, fun hm => absurd hm List.not_mem_nil, fun _ z2 f2 k2 c2 c3 => ?_⟩
      have := outer 16 0 z2 (by omega) (frF_t (frF_u (frF_t frF_0 f1 (by decide) (by decide)) (by decide)) f2 (by decide) (by decide)) (fun j hj => by rw [k2 j hj, if_neg hj, g39]) ⟨c2, c3⟩ (by rw [f2.1 48 (by decide)]; simp only [pvUp_nl, pvSt_ne, pvSt_eq, ne_eq, Nat.reduceEqDiff, not_false_eq_true]; have := l1 s hs; rw [eA] at this; exact this)
      first
        | exact this
        | exact ⟨by decide, this⟩
        | exact ⟨by decide, by decide, this⟩
        | exact ⟨by omega, this⟩
  · exact h.elim
