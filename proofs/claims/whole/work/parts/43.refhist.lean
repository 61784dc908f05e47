/-! the reference: changes kept, taken back -/
def C_X10_clears : pvC
  | [.inr (.inr (.inl id)), .inl s], z, Q => id = 39 ∧ (0 ≤ s ∧ s ≤ 1) ∧
      ∀ z' : pvM, frF [40] [] z z' → (∀ j : Nat, ¬ (163 * s ≤ j ∧ j < 163 * s + 163) → z'.1 40 j = z.1 40 j) → z'.1 40 (163 * s).toNat = 1 → (∀ j : Nat, 163 * s < j → j < 163 * s + 163 → z'.1 40 j = 0) → Q (.inl none) z'
  | _, _, _ => False
def bX10_clears : Nat → List (Instr × Nat)
  | 0 => [(.iconst 0, 1), (.istore_n 2, 1)]
  | 2 => [(.iload_n 2, 1), (.sipush 163, 3), (.if_icmp .ge 22, 3), (.aload_n 0, 1), (.getfield 7, 3), (.sipush 163, 3), (.iload_n 1, 1), (.imul, 1), (.iload_n 2, 1), (.iadd, 1), (.iconst 0, 1), (.iastore, 1), (.iinc 2 1, 3), (.goto (-23), 3)]
  | 28 => [(.aload_n 0, 1), (.getfield 7, 3), (.sipush 163, 3), (.iload_n 1, 1), (.imul, 1), (.iconst 1, 1), (.iastore, 1), (.return_, 1)]
  | _ => []
def uX10_clears : Nat → Option (List Bool)
  | 2 => some [true, true, true]
  | _ => none
def aX10_clears : pvCa
  | _ => none
theorem bX10_clears_0 : bX10_clears 0 = [(.iconst 0, 1), (.istore_n 2, 1)] := rfl
theorem uX10_clears_0 : uX10_clears 0 = none := rfl
theorem bX10_clears_2 : bX10_clears 2 = [(.iload_n 2, 1), (.sipush 163, 3), (.if_icmp .ge 22, 3), (.aload_n 0, 1), (.getfield 7, 3), (.sipush 163, 3), (.iload_n 1, 1), (.imul, 1), (.iload_n 2, 1), (.iadd, 1), (.iconst 0, 1), (.iastore, 1), (.iinc 2 1, 3), (.goto (-23), 3)] := rfl
theorem uX10_clears_2 : uX10_clears 2 = some [true, true, true] := rfl
theorem bX10_clears_28 : bX10_clears 28 = [(.aload_n 0, 1), (.getfield 7, 3), (.sipush 163, 3), (.iload_n 1, 1), (.imul, 1), (.iconst 1, 1), (.iastore, 1), (.return_, 1)] := rfl
theorem uX10_clears_28 : uX10_clears 28 = none := rfl
def mX10_clears : Room := { frames := 0, cells := 1, slots := 6, locals := 0 }
set_option maxRecDepth 100000 in
set_option maxHeartbeats 4000000 in
theorem okX10_clears : pvOkM fX10 aX10_clears kX10 eX10 none bX10_clears uX10_clears 3 C_X10_clears := by
  intro Q SW hc as z h hS hz
  unfold C_X10_clears at h
  split at h
  · rename_i id s
    obtain ⟨rfl, hs, h2⟩ := h
    refine ⟨Nat.le_of_ble_eq_true rfl, ?_⟩
    have loop : ∀ (m k : Nat) (z' : pvM), k + m = 163 → frF [40] [] z z' → (∀ j : Nat, ¬ (163 * s ≤ j ∧ j < 163 * s + k) → z'.1 40 j = z.1 40 j) → (∀ j : Nat, 163 * s ≤ j → j < 163 * s + k → z'.1 40 j = 0) →
        SW 2 [some (vR 39), some (vI s), some (vI (k : Int))] z' := by
      intro m
      induction m using Nat.strongRecOn with
      | _ m ih =>
        intro k z' hk hf h3 h4
        refine hc 20 _ _ _ fun _ _ => ?_
        simp only [pvSt1]
        simp only [pvE_iconst, pvE_istore_n2, pvS1, List.length_cons, List.length_nil, pvClr_i, pvClr_r, pvClr_l, pvClr_d, pvClr_f, pvClr_n, pvE_iload_n2, pvLI_s, pvLd, pvE_sipush, pvE_icmp_ge, pvE_aload_n0, pvLA_s, pvE_getfield, pvGf_0, pvGf_1, pvGf_2, fX10_7, pvSh_0, pvSh_1, pvSh_2, pvSh_3, pvSh_4, pvSh_5, pvSh_6, pvSh_7, pvSh_8, pvSh_9, pvSh_10, pvSh_11, pvSh_12, pvSh_13, pvSh_14, pvSh_15, pvSh_16, pvSh_17, pvSh_18, pvSh_19, pvSh_20, pvSh_21, pvSh_22, pvSh_23, pvSh_24, pvSh_25, pvSh_26, pvSh_27, pvSh_28, pvSh_29, pvSh_30, pvSh_31, pvSh_32, pvSh_33, pvSh_34, pvSh_35, pvSh_36, pvSh_37, pvSh_38, pvSh_39, pvSh_40, pvSh_41, pvSh_42, pvSh_43, pvSh_44, pvSh_45, pvSh_46, pvSh_47, pvSh_48, pvSh_49, pvSh_50, pvSh_51, pvSh_52, pvSh_53, pvSh_54, pvSh_55, pvSh_56, pvSh_57, pvSh_58, pvSh_59, pvRf_0_0, pvRf_0_1, pvRf_0_2, pvRf_0_3, pvRf_0_4, pvRf_0_5, pvRf_0_6, pvRf_0_7, pvRf_0_8, pvRf_0_9, pvRf_0_10, pvRf_1_0, pvRf_3_0, pvRf_5_0, pvRf_5_1, pvRf_5_2, pvRf_9_0, pvRf_9_1, pvRf_9_2, pvRf_13_0, pvRf_13_1, pvRf_13_2, pvRf_17_0, pvRf_17_2, pvRf_20_0, pvRf_20_1, pvRf_20_2, pvRf_24_0, pvRf_24_1, pvRf_24_2, pvRf_28_0, pvRf_28_1, pvRf_28_2, pvRf_28_3, pvRf_33_0, pvRf_33_1, pvRf_36_0, pvRf_36_1, pvRf_39_0, pvRf_39_1, pvRf_39_2, pvRf_39_5, pvRf_39_6, pvRf_39_9, pvRf_39_13, pvRf_39_15, pvRf_39_16, pvRf_39_17, pvRf_39_19, pvRf_39_20, pvRf_39_22, pvRf_39_23, pvRf_39_24, pvRf_39_25, pvRf_39_29, pvRf_39_30, pvE_iload_n1, pvE_imul, pvE_iadd, pvE_iastore, pvAI, pvE_iinc, pvIc_s, pvE_goto, pvE_return, bX10_clears_0, uX10_clears_0, bX10_clears_2, uX10_clears_2, bX10_clears_28, uX10_clears_28, pvMk_t, pvMk_f, pvMk_n, pvRecv_r, pvUp_nl, pvUp_same, pvUp_ap, pvSt_ap, pvX_c, pvX_ms, pvX_mn, pvE_nil, pvEn_i, pvEn_r, pvEn_l, pvEn_0, pvEn_s, pvRt, pvRv, pvTh, pvKc, pvGo, pvTgt, Int.toNat_natCast, false_and, and_false, true_and, and_true, if_true, if_false, reduceIte, reduceCtorEq, forall_const, false_or, or_false, true_or, or_true, ne_eq, not_true_eq_false, not_false_eq_true, implies_true, false_implies, Nat.reduceAdd, Nat.reduceSub, Nat.reduceMul, Nat.reduceEqDiff, Nat.reduceLT, Nat.reduceLeDiff, Int.reduceAdd, Int.reduceSub, Int.reduceMul, Int.reduceNeg, Int.reduceToNat, Int.reduceLE, Int.reduceLT, Int.reduceEq, Int.reduceNe, and_self]
        by_cases hx : 163 ≤ k
        · (repeat' (first | with_reducible apply And.intro | intro _))
          all_goals first
            | omega
            | contradiction
            | (refine h2 _ (by (repeat' first | assumption | exact frF_0 | (refine frF_u ?_ (by decide)) | (refine frF_s ?_ (by decide)) | (refine frF_l ?_ (by decide)))) (fun j hj => ?_) ?_ (fun j hj hj2 => ?_) <;> simp only [pvUp_ap] <;> grind)
        · have ihk := ih (m - 1) (by omega) (k + 1) (pvUp z'.1 40 (163 * s + (k : Int)).toNat 0, z'.2) (by omega) (by (repeat' first | assumption | exact frF_0 | (refine frF_u ?_ (by decide)) | (refine frF_s ?_ (by decide)) | (refine frF_l ?_ (by decide)))) (fun j hj => by simp only [pvUp_ap]; grind) (fun j hj hj2 => by simp only [pvUp_ap]; grind)
          (repeat' (first | with_reducible apply And.intro | intro _))
          all_goals first
            | omega
            | contradiction
            | exact ihk
    refine hc 20 _ _ _ fun _ _ => ?_
    simp only [pvSt1]
    simp only [pvE_iconst, pvE_istore_n2, pvS1, List.length_cons, List.length_nil, pvClr_i, pvClr_r, pvClr_l, pvClr_d, pvClr_f, pvClr_n, pvE_iload_n2, pvLI_s, pvLd, pvE_sipush, pvE_icmp_ge, pvE_aload_n0, pvLA_s, pvE_getfield, pvGf_0, pvGf_1, pvGf_2, fX10_7, pvSh_0, pvSh_1, pvSh_2, pvSh_3, pvSh_4, pvSh_5, pvSh_6, pvSh_7, pvSh_8, pvSh_9, pvSh_10, pvSh_11, pvSh_12, pvSh_13, pvSh_14, pvSh_15, pvSh_16, pvSh_17, pvSh_18, pvSh_19, pvSh_20, pvSh_21, pvSh_22, pvSh_23, pvSh_24, pvSh_25, pvSh_26, pvSh_27, pvSh_28, pvSh_29, pvSh_30, pvSh_31, pvSh_32, pvSh_33, pvSh_34, pvSh_35, pvSh_36, pvSh_37, pvSh_38, pvSh_39, pvSh_40, pvSh_41, pvSh_42, pvSh_43, pvSh_44, pvSh_45, pvSh_46, pvSh_47, pvSh_48, pvSh_49, pvSh_50, pvSh_51, pvSh_52, pvSh_53, pvSh_54, pvSh_55, pvSh_56, pvSh_57, pvSh_58, pvSh_59, pvRf_0_0, pvRf_0_1, pvRf_0_2, pvRf_0_3, pvRf_0_4, pvRf_0_5, pvRf_0_6, pvRf_0_7, pvRf_0_8, pvRf_0_9, pvRf_0_10, pvRf_1_0, pvRf_3_0, pvRf_5_0, pvRf_5_1, pvRf_5_2, pvRf_9_0, pvRf_9_1, pvRf_9_2, pvRf_13_0, pvRf_13_1, pvRf_13_2, pvRf_17_0, pvRf_17_2, pvRf_20_0, pvRf_20_1, pvRf_20_2, pvRf_24_0, pvRf_24_1, pvRf_24_2, pvRf_28_0, pvRf_28_1, pvRf_28_2, pvRf_28_3, pvRf_33_0, pvRf_33_1, pvRf_36_0, pvRf_36_1, pvRf_39_0, pvRf_39_1, pvRf_39_2, pvRf_39_5, pvRf_39_6, pvRf_39_9, pvRf_39_13, pvRf_39_15, pvRf_39_16, pvRf_39_17, pvRf_39_19, pvRf_39_20, pvRf_39_22, pvRf_39_23, pvRf_39_24, pvRf_39_25, pvRf_39_29, pvRf_39_30, pvE_iload_n1, pvE_imul, pvE_iadd, pvE_iastore, pvAI, pvE_iinc, pvIc_s, pvE_goto, pvE_return, bX10_clears_0, uX10_clears_0, bX10_clears_2, uX10_clears_2, bX10_clears_28, uX10_clears_28, pvMk_t, pvMk_f, pvMk_n, pvRecv_r, pvUp_nl, pvUp_same, pvUp_ap, pvSt_ap, pvX_c, pvX_ms, pvX_mn, pvE_nil, pvEn_i, pvEn_r, pvEn_l, pvEn_0, pvEn_s, pvRt, pvRv, pvTh, pvKc, pvGo, pvTgt, Int.toNat_natCast, false_and, and_false, true_and, and_true, if_true, if_false, reduceIte, reduceCtorEq, forall_const, false_or, or_false, true_or, or_true, ne_eq, not_true_eq_false, not_false_eq_true, implies_true, false_implies, Nat.reduceAdd, Nat.reduceSub, Nat.reduceMul, Nat.reduceEqDiff, Nat.reduceLT, Nat.reduceLeDiff, Int.reduceAdd, Int.reduceSub, Int.reduceMul, Int.reduceNeg, Int.reduceToNat, Int.reduceLE, Int.reduceLT, Int.reduceEq, Int.reduceNe, and_self]
    (repeat' (first | with_reducible apply And.intro | intro _))
    all_goals first
      | omega
      | exact loop 163 0 z rfl frF_0 (fun _ _ => rfl) (fun j h1 h2 => by omega)
  · exact h.elim
/-- one more change is kept: what the changes behind it hold, and itself -/
def chgF (z z' : pvM) : Prop := z'.1 39 3 = (if z.1 39 3 = 8 then 8 else z.1 39 3 + 1) ∧ (∀ i k : Nat, (i : Int) + 1 < z'.1 39 3 → k < 326 → z'.1 42 (326 * i + k) = z.1 42 (326 * (if z.1 39 3 = 8 then i + 1 else i) + k)) ∧ ∀ k : Nat, k < 326 → z'.1 42 (326 * (z'.1 39 3 - 1).toNat + k) = z.1 40 k
def C_X10_changes : pvC
  | [.inr (.inr (.inl id))], z, Q => id = 39 ∧ (0 ≤ z.1 39 3 ∧ z.1 39 3 ≤ 8) ∧
      ∀ z' : pvM, frF [39, 42] [] z z' → (∀ j, j ≠ 3 → z'.1 39 j = z.1 39 j) → chgF z z' → Q (.inl none) z'
  | _, _, _ => False
def bX10_changes : Nat → List (Instr × Nat)
  | 0 => [(.aload_n 0, 1), (.getfield 84, 3), (.bipush 8, 2), (.if_icmp .ne 44, 3), (.iconst 0, 1), (.istore_n 1, 1)]
  | 11 => [(.iload_n 1, 1), (.sipush 2282, 3), (.if_icmp .ge 25, 3), (.aload_n 0, 1), (.getfield 16, 3), (.iload_n 1, 1), (.aload_n 0, 1), (.getfield 16, 3), (.iload_n 1, 1), (.sipush 326, 3), (.iadd, 1), (.iaload, 1), (.iastore, 1), (.iinc 1 1, 3), (.goto (-26), 3)]
  | 40 => [(.aload_n 0, 1), (.dup, 1), (.getfield 84, 3), (.iconst 1, 1), (.isub, 1), (.putfield 84, 3)]
  | 50 => [(.iconst 0, 1), (.istore_n 1, 1)]
  | 52 => [(.iload_n 1, 1), (.sipush 326, 3), (.if_icmp .ge 30, 3), (.aload_n 0, 1), (.getfield 16, 3), (.sipush 326, 3), (.aload_n 0, 1), (.getfield 84, 3), (.imul, 1), (.iload_n 1, 1), (.iadd, 1), (.aload_n 0, 1), (.getfield 7, 3), (.iload_n 1, 1), (.iaload, 1), (.iastore, 1), (.iinc 1 1, 3), (.goto (-31), 3)]
  | 86 => [(.aload_n 0, 1), (.dup, 1), (.getfield 84, 3), (.iconst 1, 1), (.iadd, 1), (.putfield 84, 3), (.return_, 1)]
  | _ => []
def uX10_changes : Nat → Option (List Bool)
  | 11 => some [true, true]
  | 52 => some [true, true]
  | _ => none
def aX10_changes : pvCa
  | _ => none
theorem bX10_changes_0 : bX10_changes 0 = [(.aload_n 0, 1), (.getfield 84, 3), (.bipush 8, 2), (.if_icmp .ne 44, 3), (.iconst 0, 1), (.istore_n 1, 1)] := rfl
theorem uX10_changes_0 : uX10_changes 0 = none := rfl
theorem bX10_changes_11 : bX10_changes 11 = [(.iload_n 1, 1), (.sipush 2282, 3), (.if_icmp .ge 25, 3), (.aload_n 0, 1), (.getfield 16, 3), (.iload_n 1, 1), (.aload_n 0, 1), (.getfield 16, 3), (.iload_n 1, 1), (.sipush 326, 3), (.iadd, 1), (.iaload, 1), (.iastore, 1), (.iinc 1 1, 3), (.goto (-26), 3)] := rfl
theorem uX10_changes_11 : uX10_changes 11 = some [true, true] := rfl
theorem bX10_changes_40 : bX10_changes 40 = [(.aload_n 0, 1), (.dup, 1), (.getfield 84, 3), (.iconst 1, 1), (.isub, 1), (.putfield 84, 3)] := rfl
theorem uX10_changes_40 : uX10_changes 40 = none := rfl
theorem bX10_changes_50 : bX10_changes 50 = [(.iconst 0, 1), (.istore_n 1, 1)] := rfl
theorem uX10_changes_50 : uX10_changes 50 = none := rfl
theorem bX10_changes_52 : bX10_changes 52 = [(.iload_n 1, 1), (.sipush 326, 3), (.if_icmp .ge 30, 3), (.aload_n 0, 1), (.getfield 16, 3), (.sipush 326, 3), (.aload_n 0, 1), (.getfield 84, 3), (.imul, 1), (.iload_n 1, 1), (.iadd, 1), (.aload_n 0, 1), (.getfield 7, 3), (.iload_n 1, 1), (.iaload, 1), (.iastore, 1), (.iinc 1 1, 3), (.goto (-31), 3)] := rfl
theorem uX10_changes_52 : uX10_changes 52 = some [true, true] := rfl
theorem bX10_changes_86 : bX10_changes 86 = [(.aload_n 0, 1), (.dup, 1), (.getfield 84, 3), (.iconst 1, 1), (.iadd, 1), (.putfield 84, 3), (.return_, 1)] := rfl
theorem uX10_changes_86 : uX10_changes 86 = none := rfl
def mX10_changes : Room := { frames := 0, cells := 1, slots := 6, locals := 0 }
set_option maxRecDepth 100000 in
set_option maxHeartbeats 4000000 in
theorem okX10_changes : pvOkM fX10 aX10_changes kX10 eX10 none bX10_changes uX10_changes 2 C_X10_changes := by
  intro Q SW hc as z h hS hz
  unfold C_X10_changes at h
  split at h
  · rename_i id
    obtain ⟨rfl, hp, h2⟩ := h
    refine ⟨Nat.le_of_ble_eq_true rfl, ?_⟩
    have lay : ∀ (z1 : pvM), frF [39, 42] [] z z1 → (∀ j, j ≠ 3 → z1.1 39 j = z.1 39 j) → z1.1 39 3 = (if z.1 39 3 = 8 then 7 else z.1 39 3) → (∀ i k : Nat, (i : Int) < z1.1 39 3 → k < 326 → z1.1 42 (326 * i + k) = z.1 42 (326 * (if z.1 39 3 = 8 then i + 1 else i) + k)) →
        ∀ (m k : Nat) (z' : pvM), k + m = 326 → frF [42] [] z1 z' → (∀ j : Nat, ¬ (326 * z1.1 39 3 ≤ j ∧ j < 326 * z1.1 39 3 + k) → z'.1 42 j = z1.1 42 j) → (∀ j : Nat, j < k → z'.1 42 (326 * (z1.1 39 3).toNat + j) = z.1 40 j) →
        SW 52 [some (vR 39), some (vI (k : Int))] z' := by
      intro z1 f1 k1 p1 s1 m
      have hp1 : 0 ≤ z1.1 39 3 ∧ z1.1 39 3 ≤ 7 := by rw [p1]; split <;> omega
      induction m using Nat.strongRecOn with
      | _ m ih =>
        intro k z' hk hf h3 h4
        have e39 := hf.1 39 (by decide)
        have e40 := hf.1 40 (by decide)
        have e40' := f1.1 40 (by decide)
        refine hc 20 _ _ _ fun _ _ => ?_
        simp only [pvSt1]
        simp only [e39, e40, e40', pvE_aload_n0, pvLA_s, pvLd, pvE_getfield, pvGf_0, pvGf_1, pvGf_2, fX10_84, pvSh_0, pvSh_1, pvSh_2, pvSh_3, pvSh_4, pvSh_5, pvSh_6, pvSh_7, pvSh_8, pvSh_9, pvSh_10, pvSh_11, pvSh_12, pvSh_13, pvSh_14, pvSh_15, pvSh_16, pvSh_17, pvSh_18, pvSh_19, pvSh_20, pvSh_21, pvSh_22, pvSh_23, pvSh_24, pvSh_25, pvSh_26, pvSh_27, pvSh_28, pvSh_29, pvSh_30, pvSh_31, pvSh_32, pvSh_33, pvSh_34, pvSh_35, pvSh_36, pvSh_37, pvSh_38, pvSh_39, pvSh_40, pvSh_41, pvSh_42, pvSh_43, pvSh_44, pvSh_45, pvSh_46, pvSh_47, pvSh_48, pvSh_49, pvSh_50, pvSh_51, pvSh_52, pvSh_53, pvSh_54, pvSh_55, pvSh_56, pvSh_57, pvSh_58, pvSh_59, pvRf_0_0, pvRf_0_1, pvRf_0_2, pvRf_0_3, pvRf_0_4, pvRf_0_5, pvRf_0_6, pvRf_0_7, pvRf_0_8, pvRf_0_9, pvRf_0_10, pvRf_1_0, pvRf_3_0, pvRf_5_0, pvRf_5_1, pvRf_5_2, pvRf_9_0, pvRf_9_1, pvRf_9_2, pvRf_13_0, pvRf_13_1, pvRf_13_2, pvRf_17_0, pvRf_17_2, pvRf_20_0, pvRf_20_1, pvRf_20_2, pvRf_24_0, pvRf_24_1, pvRf_24_2, pvRf_28_0, pvRf_28_1, pvRf_28_2, pvRf_28_3, pvRf_33_0, pvRf_33_1, pvRf_36_0, pvRf_36_1, pvRf_39_0, pvRf_39_1, pvRf_39_2, pvRf_39_5, pvRf_39_6, pvRf_39_9, pvRf_39_13, pvRf_39_15, pvRf_39_16, pvRf_39_17, pvRf_39_19, pvRf_39_20, pvRf_39_22, pvRf_39_23, pvRf_39_24, pvRf_39_25, pvRf_39_29, pvRf_39_30, pvE_bipush, pvE_icmp_ne, pvE_iconst, pvE_istore_n1, pvS1, List.length_cons, List.length_nil, pvClr_i, pvClr_r, pvClr_l, pvClr_d, pvClr_f, pvClr_n, pvE_iload_n1, pvLI_s, pvE_sipush, pvE_icmp_ge, fX10_16, pvE_iadd, pvE_iaload, pvAI, pvE_iastore, pvE_iinc, pvIc_s, pvE_goto, pvE_dup_i, pvE_dup_r, pvE_isub, pvE_putfield, pvPf_0, pvPf_1, pvE_imul, fX10_7, pvE_return, bX10_changes_0, uX10_changes_0, bX10_changes_11, uX10_changes_11, bX10_changes_40, uX10_changes_40, bX10_changes_50, uX10_changes_50, bX10_changes_52, uX10_changes_52, bX10_changes_86, uX10_changes_86, pvMk_t, pvMk_f, pvMk_n, pvRecv_r, pvUp_nl, pvUp_same, pvUp_ap, pvSt_ap, pvX_c, pvX_ms, pvX_mn, pvE_nil, pvEn_i, pvEn_r, pvEn_l, pvEn_0, pvEn_s, pvRt, pvRv, pvTh, pvKc, pvGo, pvTgt, Int.toNat_natCast, false_and, and_false, true_and, and_true, if_true, if_false, reduceIte, reduceCtorEq, forall_const, false_or, or_false, true_or, or_true, ne_eq, not_true_eq_false, not_false_eq_true, implies_true, false_implies, Nat.reduceAdd, Nat.reduceSub, Nat.reduceMul, Nat.reduceEqDiff, Nat.reduceLT, Nat.reduceLeDiff, Int.reduceAdd, Int.reduceSub, Int.reduceMul, Int.reduceNeg, Int.reduceToNat, Int.reduceLE, Int.reduceLT, Int.reduceEq, Int.reduceNe, and_self]
        by_cases hx : 326 ≤ k
        · (repeat' (first | with_reducible apply And.intro | intro _))
          all_goals first
            | omega
            | contradiction
            | (refine h2 _ (by refine frF_u ?_ (by decide); exact frF_t f1 hf (by decide) (by decide)) (fun j hj => ?_) ⟨?_, fun i k hi hk => ?_, fun k hk => ?_⟩
               · simp [pvUp_ap, e39, hj]; exact k1 j hj
               · simp [pvUp_ap, e39, p1]; split <;> rfl
               · simp [pvUp_ap] at hi ⊢
                 rw [h3 (326 * i + k) (by omega)]
                 exact s1 i k (by omega) hk
               · simp [pvUp_ap]
                 exact h4 k (by omega))
        · have ihk := ih (m - 1) (by omega) (k + 1) (pvUp z'.1 42 (326 * z1.1 39 3 + (k : Int)).toNat (z.1 40 k), z'.2) (by omega) (by (repeat' first | assumption | exact frF_0 | (refine frF_u ?_ (by decide)) | (refine frF_s ?_ (by decide)) | (refine frF_l ?_ (by decide)))) (fun j hj => by simp only [pvUp_ap]; grind) (fun j hj => by simp only [pvUp_ap]; grind)
          (repeat' (first | with_reducible apply And.intro | intro _))
          all_goals first
            | omega
            | contradiction
            | exact ihk
    have shift : ∀ (m k : Nat) (z' : pvM), k + m = 2282 → z.1 39 3 = 8 → frF [42] [] z z' → (∀ j : Nat, k ≤ j → z'.1 42 j = z.1 42 j) → (∀ j : Nat, j < k → z'.1 42 j = z.1 42 (j + 326)) →
        SW 11 [some (vR 39), some (vI (k : Int))] z' := by
      intro m
      induction m using Nat.strongRecOn with
      | _ m ih =>
        intro k z' hk h8 hf h3 h4
        have e39 := hf.1 39 (by decide)
        have n1 : ((k : Int) + 326).toNat = k + 326 := by omega
        refine hc 20 _ _ _ fun _ _ => ?_
        simp only [pvSt1]
        simp only [e39, n1, pvE_aload_n0, pvLA_s, pvLd, pvE_getfield, pvGf_0, pvGf_1, pvGf_2, fX10_84, pvSh_0, pvSh_1, pvSh_2, pvSh_3, pvSh_4, pvSh_5, pvSh_6, pvSh_7, pvSh_8, pvSh_9, pvSh_10, pvSh_11, pvSh_12, pvSh_13, pvSh_14, pvSh_15, pvSh_16, pvSh_17, pvSh_18, pvSh_19, pvSh_20, pvSh_21, pvSh_22, pvSh_23, pvSh_24, pvSh_25, pvSh_26, pvSh_27, pvSh_28, pvSh_29, pvSh_30, pvSh_31, pvSh_32, pvSh_33, pvSh_34, pvSh_35, pvSh_36, pvSh_37, pvSh_38, pvSh_39, pvSh_40, pvSh_41, pvSh_42, pvSh_43, pvSh_44, pvSh_45, pvSh_46, pvSh_47, pvSh_48, pvSh_49, pvSh_50, pvSh_51, pvSh_52, pvSh_53, pvSh_54, pvSh_55, pvSh_56, pvSh_57, pvSh_58, pvSh_59, pvRf_0_0, pvRf_0_1, pvRf_0_2, pvRf_0_3, pvRf_0_4, pvRf_0_5, pvRf_0_6, pvRf_0_7, pvRf_0_8, pvRf_0_9, pvRf_0_10, pvRf_1_0, pvRf_3_0, pvRf_5_0, pvRf_5_1, pvRf_5_2, pvRf_9_0, pvRf_9_1, pvRf_9_2, pvRf_13_0, pvRf_13_1, pvRf_13_2, pvRf_17_0, pvRf_17_2, pvRf_20_0, pvRf_20_1, pvRf_20_2, pvRf_24_0, pvRf_24_1, pvRf_24_2, pvRf_28_0, pvRf_28_1, pvRf_28_2, pvRf_28_3, pvRf_33_0, pvRf_33_1, pvRf_36_0, pvRf_36_1, pvRf_39_0, pvRf_39_1, pvRf_39_2, pvRf_39_5, pvRf_39_6, pvRf_39_9, pvRf_39_13, pvRf_39_15, pvRf_39_16, pvRf_39_17, pvRf_39_19, pvRf_39_20, pvRf_39_22, pvRf_39_23, pvRf_39_24, pvRf_39_25, pvRf_39_29, pvRf_39_30, pvE_bipush, pvE_icmp_ne, pvE_iconst, pvE_istore_n1, pvS1, List.length_cons, List.length_nil, pvClr_i, pvClr_r, pvClr_l, pvClr_d, pvClr_f, pvClr_n, pvE_iload_n1, pvLI_s, pvE_sipush, pvE_icmp_ge, fX10_16, pvE_iadd, pvE_iaload, pvAI, pvE_iastore, pvE_iinc, pvIc_s, pvE_goto, pvE_dup_i, pvE_dup_r, pvE_isub, pvE_putfield, pvPf_0, pvPf_1, pvE_imul, fX10_7, pvE_return, bX10_changes_0, uX10_changes_0, bX10_changes_11, uX10_changes_11, bX10_changes_40, uX10_changes_40, bX10_changes_50, uX10_changes_50, bX10_changes_52, uX10_changes_52, bX10_changes_86, uX10_changes_86, pvMk_t, pvMk_f, pvMk_n, pvRecv_r, pvUp_nl, pvUp_same, pvUp_ap, pvSt_ap, pvX_c, pvX_ms, pvX_mn, pvE_nil, pvEn_i, pvEn_r, pvEn_l, pvEn_0, pvEn_s, pvRt, pvRv, pvTh, pvKc, pvGo, pvTgt, Int.toNat_natCast, false_and, and_false, true_and, and_true, if_true, if_false, reduceIte, reduceCtorEq, forall_const, false_or, or_false, true_or, or_true, ne_eq, not_true_eq_false, not_false_eq_true, implies_true, false_implies, Nat.reduceAdd, Nat.reduceSub, Nat.reduceMul, Nat.reduceEqDiff, Nat.reduceLT, Nat.reduceLeDiff, Int.reduceAdd, Int.reduceSub, Int.reduceMul, Int.reduceNeg, Int.reduceToNat, Int.reduceLE, Int.reduceLT, Int.reduceEq, Int.reduceNe, and_self]
        by_cases hx : 2282 ≤ k
        · (repeat' (first | with_reducible apply And.intro | intro _))
          all_goals first
            | omega
            | contradiction
            | (refine lay _ (by refine frF_u ?_ (by decide); exact frF_t frF_0 hf (by decide) (by decide)) (fun j hj => ?_) ?_ (fun i k hi hk => ?_) 326 0 _ rfl frF_0 (fun _ _ => rfl) (fun j hj => by omega)
               · simp [pvUp_ap, e39, hj]
               · simp [pvUp_ap, h8]
               · simp [pvUp_ap, h8] at hi ⊢
                 rw [h4 _ (by omega), show 326 * i + k + 326 = 326 * (i + 1) + k by omega])
        · have ihk := ih (m - 1) (by omega) (k + 1) (pvUp z'.1 42 k (z'.1 42 (k + 326)), z'.2) (by omega) h8 (by (repeat' first | assumption | exact frF_0 | (refine frF_u ?_ (by decide)) | (refine frF_s ?_ (by decide)) | (refine frF_l ?_ (by decide)))) (fun j hj => by simp only [pvUp_ap]; grind) (fun j hj => by simp only [pvUp_ap]; grind)
          (repeat' (first | with_reducible apply And.intro | intro _))
          all_goals first
            | omega
            | contradiction
            | exact ihk
    refine hc 20 _ _ _ fun _ _ => ?_
    simp only [pvSt1]
    simp only [pvE_aload_n0, pvLA_s, pvLd, pvE_getfield, pvGf_0, pvGf_1, pvGf_2, fX10_84, pvSh_0, pvSh_1, pvSh_2, pvSh_3, pvSh_4, pvSh_5, pvSh_6, pvSh_7, pvSh_8, pvSh_9, pvSh_10, pvSh_11, pvSh_12, pvSh_13, pvSh_14, pvSh_15, pvSh_16, pvSh_17, pvSh_18, pvSh_19, pvSh_20, pvSh_21, pvSh_22, pvSh_23, pvSh_24, pvSh_25, pvSh_26, pvSh_27, pvSh_28, pvSh_29, pvSh_30, pvSh_31, pvSh_32, pvSh_33, pvSh_34, pvSh_35, pvSh_36, pvSh_37, pvSh_38, pvSh_39, pvSh_40, pvSh_41, pvSh_42, pvSh_43, pvSh_44, pvSh_45, pvSh_46, pvSh_47, pvSh_48, pvSh_49, pvSh_50, pvSh_51, pvSh_52, pvSh_53, pvSh_54, pvSh_55, pvSh_56, pvSh_57, pvSh_58, pvSh_59, pvRf_0_0, pvRf_0_1, pvRf_0_2, pvRf_0_3, pvRf_0_4, pvRf_0_5, pvRf_0_6, pvRf_0_7, pvRf_0_8, pvRf_0_9, pvRf_0_10, pvRf_1_0, pvRf_3_0, pvRf_5_0, pvRf_5_1, pvRf_5_2, pvRf_9_0, pvRf_9_1, pvRf_9_2, pvRf_13_0, pvRf_13_1, pvRf_13_2, pvRf_17_0, pvRf_17_2, pvRf_20_0, pvRf_20_1, pvRf_20_2, pvRf_24_0, pvRf_24_1, pvRf_24_2, pvRf_28_0, pvRf_28_1, pvRf_28_2, pvRf_28_3, pvRf_33_0, pvRf_33_1, pvRf_36_0, pvRf_36_1, pvRf_39_0, pvRf_39_1, pvRf_39_2, pvRf_39_5, pvRf_39_6, pvRf_39_9, pvRf_39_13, pvRf_39_15, pvRf_39_16, pvRf_39_17, pvRf_39_19, pvRf_39_20, pvRf_39_22, pvRf_39_23, pvRf_39_24, pvRf_39_25, pvRf_39_29, pvRf_39_30, pvE_bipush, pvE_icmp_ne, pvE_iconst, pvE_istore_n1, pvS1, List.length_cons, List.length_nil, pvClr_i, pvClr_r, pvClr_l, pvClr_d, pvClr_f, pvClr_n, pvE_iload_n1, pvLI_s, pvE_sipush, pvE_icmp_ge, fX10_16, pvE_iadd, pvE_iaload, pvAI, pvE_iastore, pvE_iinc, pvIc_s, pvE_goto, pvE_dup_i, pvE_dup_r, pvE_isub, pvE_putfield, pvPf_0, pvPf_1, pvE_imul, fX10_7, pvE_return, bX10_changes_0, uX10_changes_0, bX10_changes_11, uX10_changes_11, bX10_changes_40, uX10_changes_40, bX10_changes_50, uX10_changes_50, bX10_changes_52, uX10_changes_52, bX10_changes_86, uX10_changes_86, pvMk_t, pvMk_f, pvMk_n, pvRecv_r, pvUp_nl, pvUp_same, pvUp_ap, pvSt_ap, pvX_c, pvX_ms, pvX_mn, pvE_nil, pvEn_i, pvEn_r, pvEn_l, pvEn_0, pvEn_s, pvRt, pvRv, pvTh, pvKc, pvGo, pvTgt, Int.toNat_natCast, false_and, and_false, true_and, and_true, if_true, if_false, reduceIte, reduceCtorEq, forall_const, false_or, or_false, true_or, or_true, ne_eq, not_true_eq_false, not_false_eq_true, implies_true, false_implies, Nat.reduceAdd, Nat.reduceSub, Nat.reduceMul, Nat.reduceEqDiff, Nat.reduceLT, Nat.reduceLeDiff, Int.reduceAdd, Int.reduceSub, Int.reduceMul, Int.reduceNeg, Int.reduceToNat, Int.reduceLE, Int.reduceLT, Int.reduceEq, Int.reduceNe, and_self]
    (repeat' (first | with_reducible apply And.intro | intro _))
    all_goals first
      | omega
      | (refine lay z frF_0 (fun _ _ => rfl) (by rw [if_neg (by omega)]) (fun i k hi hk => by rw [if_neg (by omega)]) 326 0 z rfl frF_0 (fun _ _ => rfl) (fun j h1 => by omega); done)
      | exact shift 2282 0 z rfl (by omega) frF_0 (fun _ _ => rfl) (fun j h1 => by omega)
  · exact h.elim
def C_X10_undo : pvC
  | [.inr (.inr (.inl id))], z, Q => id = 39 ∧ (0 ≤ z.1 39 3 ∧ z.1 39 3 ≤ 8) ∧ (z.1 39 3 = 0 → Q (.inl (some (vI 0))) (pvUp z.1 39 8 1, z.2)) ∧
      ∀ z' : pvM, z.1 39 3 ≠ 0 → frF [39, 40] [] z z' → (∀ j, j ≠ 3 → j ≠ 8 → z'.1 39 j = z.1 39 j) → z'.1 39 8 = 0 → z'.1 39 3 = z.1 39 3 - 1 → (∀ k : Nat, k < 326 → z'.1 40 k = z.1 42 (326 * (z.1 39 3 - 1).toNat + k)) → Q (.inl (some (vI (z.1 39 3 - 1)))) z'
  | _, _, _ => False
def bX10_undo : Nat → List (Instr × Nat)
  | 0 => [(.aload_n 0, 1), (.iconst 0, 1), (.putfield 73, 3), (.aload_n 0, 1), (.getfield 84, 3), (.ifCond .ne 9, 3), (.aload_n 0, 1), (.iconst 1, 1), (.invokevirtual 87, 3), (.ireturn, 1)]
  | 18 => [(.aload_n 0, 1), (.dup, 1), (.getfield 84, 3), (.iconst 1, 1), (.isub, 1), (.putfield 84, 3), (.iconst 0, 1), (.istore_n 1, 1)]
  | 30 => [(.iload_n 1, 1), (.sipush 326, 3), (.if_icmp .ge 30, 3), (.aload_n 0, 1), (.getfield 7, 3), (.iload_n 1, 1), (.aload_n 0, 1), (.getfield 16, 3), (.sipush 326, 3), (.aload_n 0, 1), (.getfield 84, 3), (.imul, 1), (.iload_n 1, 1), (.iadd, 1), (.iaload, 1), (.iastore, 1), (.iinc 1 1, 3), (.goto (-31), 3)]
  | 64 => [(.aload_n 0, 1), (.getfield 84, 3), (.ireturn, 1)]
  | _ => []
def uX10_undo : Nat → Option (List Bool)
  | 30 => some [true, true]
  | _ => none
def aX10_undo : pvCa
  | 87 => some (2, false, 9, 0, C_X10_fails)
  | _ => none
theorem bX10_undo_0 : bX10_undo 0 = [(.aload_n 0, 1), (.iconst 0, 1), (.putfield 73, 3), (.aload_n 0, 1), (.getfield 84, 3), (.ifCond .ne 9, 3), (.aload_n 0, 1), (.iconst 1, 1), (.invokevirtual 87, 3), (.ireturn, 1)] := rfl
theorem uX10_undo_0 : uX10_undo 0 = none := rfl
theorem bX10_undo_18 : bX10_undo 18 = [(.aload_n 0, 1), (.dup, 1), (.getfield 84, 3), (.iconst 1, 1), (.isub, 1), (.putfield 84, 3), (.iconst 0, 1), (.istore_n 1, 1)] := rfl
theorem uX10_undo_18 : uX10_undo 18 = none := rfl
theorem bX10_undo_30 : bX10_undo 30 = [(.iload_n 1, 1), (.sipush 326, 3), (.if_icmp .ge 30, 3), (.aload_n 0, 1), (.getfield 7, 3), (.iload_n 1, 1), (.aload_n 0, 1), (.getfield 16, 3), (.sipush 326, 3), (.aload_n 0, 1), (.getfield 84, 3), (.imul, 1), (.iload_n 1, 1), (.iadd, 1), (.iaload, 1), (.iastore, 1), (.iinc 1 1, 3), (.goto (-31), 3)] := rfl
theorem uX10_undo_30 : uX10_undo 30 = some [true, true] := rfl
theorem bX10_undo_64 : bX10_undo 64 = [(.aload_n 0, 1), (.getfield 84, 3), (.ireturn, 1)] := rfl
theorem uX10_undo_64 : uX10_undo 64 = none := rfl
theorem aX10_undo_87 : aX10_undo 87 = some (2, false, 9, 0, C_X10_fails) := rfl
def mX10_undo : Room := { frames := 1, cells := 1, slots := 6, locals := 21 }
set_option maxRecDepth 100000 in
set_option maxHeartbeats 4000000 in
theorem okX10_undo : pvOkM fX10 aX10_undo kX10 eX10 (some .int) bX10_undo uX10_undo 2 C_X10_undo := by
  intro Q SW hc as z h hS hz
  unfold C_X10_undo at h
  split at h
  · rename_i id
    obtain ⟨rfl, hp, h1, h2⟩ := h
    refine ⟨Nat.le_of_ble_eq_true rfl, ?_⟩
    have loop : ∀ (m k : Nat) (z' : pvM), k + m = 326 → z.1 39 3 ≠ 0 → frF [39, 40] [] z z' → (∀ j, j ≠ 3 → j ≠ 8 → z'.1 39 j = z.1 39 j) → z'.1 39 8 = 0 → z'.1 39 3 = z.1 39 3 - 1 → (∀ j : Nat, j < k → z'.1 40 j = z.1 42 (326 * (z.1 39 3 - 1).toNat + j)) →
        SW 30 [some (vR 39), some (vI (k : Int))] z' := by
      intro m
      induction m using Nat.strongRecOn with
      | _ m ih =>
        intro k z' hk h0 hf h3 h4 h5 h6
        have e42 := hf.1 42 (by decide)
        have n1 : (326 * (z.1 39 3 - 1) + (k : Int)).toNat = 326 * (z.1 39 3 - 1).toNat + k := by omega
        refine hc 20 _ _ _ fun _ _ => ?_
        simp only [pvSt1]
        simp only [h5, e42, n1, pvE_aload_n0, pvLA_s, pvLd, pvE_iconst, pvE_putfield, pvPf_0, pvPf_1, fX10_73, pvSh_0, pvSh_1, pvSh_2, pvSh_3, pvSh_4, pvSh_5, pvSh_6, pvSh_7, pvSh_8, pvSh_9, pvSh_10, pvSh_11, pvSh_12, pvSh_13, pvSh_14, pvSh_15, pvSh_16, pvSh_17, pvSh_18, pvSh_19, pvSh_20, pvSh_21, pvSh_22, pvSh_23, pvSh_24, pvSh_25, pvSh_26, pvSh_27, pvSh_28, pvSh_29, pvSh_30, pvSh_31, pvSh_32, pvSh_33, pvSh_34, pvSh_35, pvSh_36, pvSh_37, pvSh_38, pvSh_39, pvSh_40, pvSh_41, pvSh_42, pvSh_43, pvSh_44, pvSh_45, pvSh_46, pvSh_47, pvSh_48, pvSh_49, pvSh_50, pvSh_51, pvSh_52, pvSh_53, pvSh_54, pvSh_55, pvSh_56, pvSh_57, pvSh_58, pvSh_59, pvE_getfield, pvGf_0, pvGf_1, pvGf_2, fX10_84, pvRf_0_0, pvRf_0_1, pvRf_0_2, pvRf_0_3, pvRf_0_4, pvRf_0_5, pvRf_0_6, pvRf_0_7, pvRf_0_8, pvRf_0_9, pvRf_0_10, pvRf_1_0, pvRf_3_0, pvRf_5_0, pvRf_5_1, pvRf_5_2, pvRf_9_0, pvRf_9_1, pvRf_9_2, pvRf_13_0, pvRf_13_1, pvRf_13_2, pvRf_17_0, pvRf_17_2, pvRf_20_0, pvRf_20_1, pvRf_20_2, pvRf_24_0, pvRf_24_1, pvRf_24_2, pvRf_28_0, pvRf_28_1, pvRf_28_2, pvRf_28_3, pvRf_33_0, pvRf_33_1, pvRf_36_0, pvRf_36_1, pvRf_39_0, pvRf_39_1, pvRf_39_2, pvRf_39_5, pvRf_39_6, pvRf_39_9, pvRf_39_13, pvRf_39_15, pvRf_39_16, pvRf_39_17, pvRf_39_19, pvRf_39_20, pvRf_39_22, pvRf_39_23, pvRf_39_24, pvRf_39_25, pvRf_39_29, pvRf_39_30, pvE_if_ne, pvE_invokevirtual, pvC1_s, pvC2_s, pvAf_v, pvAf_x, pvPop, pvCs, pvCat, pvPush, aX10_undo_87, pvE_ireturn, pvE_dup_i, pvE_dup_r, pvE_isub, pvE_istore_n1, pvS1, List.length_cons, List.length_nil, pvClr_i, pvClr_r, pvClr_l, pvClr_d, pvClr_f, pvClr_n, pvE_iload_n1, pvLI_s, pvE_sipush, pvE_icmp_ge, fX10_7, fX10_16, pvE_imul, pvE_iadd, pvE_iaload, pvAI, pvE_iastore, pvE_iinc, pvIc_s, pvE_goto, bX10_undo_0, uX10_undo_0, bX10_undo_18, uX10_undo_18, bX10_undo_30, uX10_undo_30, bX10_undo_64, uX10_undo_64, pvMk_t, pvMk_f, pvMk_n, pvRecv_r, pvUp_nl, pvUp_same, pvUp_ap, pvSt_ap, pvX_c, pvX_ms, pvX_mn, pvE_nil, pvEn_i, pvEn_r, pvEn_l, pvEn_0, pvEn_s, pvRt, pvRv, pvTh, pvKc, pvGo, pvTgt, Int.toNat_natCast, false_and, and_false, true_and, and_true, if_true, if_false, reduceIte, reduceCtorEq, forall_const, false_or, or_false, true_or, or_true, ne_eq, not_true_eq_false, not_false_eq_true, implies_true, false_implies, Nat.reduceAdd, Nat.reduceSub, Nat.reduceMul, Nat.reduceEqDiff, Nat.reduceLT, Nat.reduceLeDiff, Int.reduceAdd, Int.reduceSub, Int.reduceMul, Int.reduceNeg, Int.reduceToNat, Int.reduceLE, Int.reduceLT, Int.reduceEq, Int.reduceNe, and_self]
        by_cases hx : 326 ≤ k
        · (repeat' (first | with_reducible apply And.intro | intro _))
          all_goals first
            | omega
            | contradiction
            | exact h2 _ h0 hf h3 h4 h5 (fun j hj => h6 j (by omega))
        · have ihk := ih (m - 1) (by omega) (k + 1) (pvUp z'.1 40 k (z.1 42 (326 * (z.1 39 3 - 1).toNat + k)), z'.2) (by omega) h0 (by (repeat' first | assumption | exact frF_0 | (refine frF_u ?_ (by decide)) | (refine frF_s ?_ (by decide)) | (refine frF_l ?_ (by decide)))) (fun j h1 h2 => by simp [pvUp_ap]; exact h3 j h1 h2) (by simp [pvUp_ap, h4]) (by simp [pvUp_ap, h5]) (fun j hj => by simp only [pvUp_ap]; grind)
          (repeat' (first | with_reducible apply And.intro | intro _))
          all_goals first
            | omega
            | contradiction
            | exact ihk
    refine hc 20 _ _ _ fun _ _ => ?_
    simp only [pvSt1]
    simp only [C_X10_fails, pvE_aload_n0, pvLA_s, pvLd, pvE_iconst, pvE_putfield, pvPf_0, pvPf_1, fX10_73, pvSh_0, pvSh_1, pvSh_2, pvSh_3, pvSh_4, pvSh_5, pvSh_6, pvSh_7, pvSh_8, pvSh_9, pvSh_10, pvSh_11, pvSh_12, pvSh_13, pvSh_14, pvSh_15, pvSh_16, pvSh_17, pvSh_18, pvSh_19, pvSh_20, pvSh_21, pvSh_22, pvSh_23, pvSh_24, pvSh_25, pvSh_26, pvSh_27, pvSh_28, pvSh_29, pvSh_30, pvSh_31, pvSh_32, pvSh_33, pvSh_34, pvSh_35, pvSh_36, pvSh_37, pvSh_38, pvSh_39, pvSh_40, pvSh_41, pvSh_42, pvSh_43, pvSh_44, pvSh_45, pvSh_46, pvSh_47, pvSh_48, pvSh_49, pvSh_50, pvSh_51, pvSh_52, pvSh_53, pvSh_54, pvSh_55, pvSh_56, pvSh_57, pvSh_58, pvSh_59, pvE_getfield, pvGf_0, pvGf_1, pvGf_2, fX10_84, pvRf_0_0, pvRf_0_1, pvRf_0_2, pvRf_0_3, pvRf_0_4, pvRf_0_5, pvRf_0_6, pvRf_0_7, pvRf_0_8, pvRf_0_9, pvRf_0_10, pvRf_1_0, pvRf_3_0, pvRf_5_0, pvRf_5_1, pvRf_5_2, pvRf_9_0, pvRf_9_1, pvRf_9_2, pvRf_13_0, pvRf_13_1, pvRf_13_2, pvRf_17_0, pvRf_17_2, pvRf_20_0, pvRf_20_1, pvRf_20_2, pvRf_24_0, pvRf_24_1, pvRf_24_2, pvRf_28_0, pvRf_28_1, pvRf_28_2, pvRf_28_3, pvRf_33_0, pvRf_33_1, pvRf_36_0, pvRf_36_1, pvRf_39_0, pvRf_39_1, pvRf_39_2, pvRf_39_5, pvRf_39_6, pvRf_39_9, pvRf_39_13, pvRf_39_15, pvRf_39_16, pvRf_39_17, pvRf_39_19, pvRf_39_20, pvRf_39_22, pvRf_39_23, pvRf_39_24, pvRf_39_25, pvRf_39_29, pvRf_39_30, pvE_if_ne, pvE_invokevirtual, pvC1_s, pvC2_s, pvAf_v, pvAf_x, pvPop, pvCs, pvCat, pvPush, aX10_undo_87, pvE_ireturn, pvE_dup_i, pvE_dup_r, pvE_isub, pvE_istore_n1, pvS1, List.length_cons, List.length_nil, pvClr_i, pvClr_r, pvClr_l, pvClr_d, pvClr_f, pvClr_n, pvE_iload_n1, pvLI_s, pvE_sipush, pvE_icmp_ge, fX10_7, fX10_16, pvE_imul, pvE_iadd, pvE_iaload, pvAI, pvE_iastore, pvE_iinc, pvIc_s, pvE_goto, bX10_undo_0, uX10_undo_0, bX10_undo_18, uX10_undo_18, bX10_undo_30, uX10_undo_30, bX10_undo_64, uX10_undo_64, pvMk_t, pvMk_f, pvMk_n, pvRecv_r, pvUp_nl, pvUp_same, pvUp_ap, pvSt_ap, pvX_c, pvX_ms, pvX_mn, pvE_nil, pvEn_i, pvEn_r, pvEn_l, pvEn_0, pvEn_s, pvRt, pvRv, pvTh, pvKc, pvGo, pvTgt, Int.toNat_natCast, false_and, and_false, true_and, and_true, if_true, if_false, reduceIte, reduceCtorEq, forall_const, false_or, or_false, true_or, or_true, ne_eq, not_true_eq_false, not_false_eq_true, implies_true, false_implies, Nat.reduceAdd, Nat.reduceSub, Nat.reduceMul, Nat.reduceEqDiff, Nat.reduceLT, Nat.reduceLeDiff, Int.reduceAdd, Int.reduceSub, Int.reduceMul, Int.reduceNeg, Int.reduceToNat, Int.reduceLE, Int.reduceLT, Int.reduceEq, Int.reduceNe, and_self]
    (repeat' (first | with_reducible apply And.intro | intro _))
    all_goals first
      | omega
      | exact h1 (by omega)
      | (refine loop 326 0 _ rfl (by omega) (by (repeat' first | assumption | exact frF_0 | (refine frF_u ?_ (by decide)) | (refine frF_s ?_ (by decide)) | (refine frF_l ?_ (by decide)))) (fun j h1 h2 => ?_) ?_ ?_ (fun j h1 => by omega) <;> simp [pvUp_ap] <;> grind)
  · exact h.elim
def C_X10_save : pvC
  | [.inr (.inr (.inl id))], z, Q => id = 39 ∧
      ∀ z' : pvM, frF [39, 41] [] z z' → (∀ j, j ≠ 4 → j ≠ 8 → z'.1 39 j = z.1 39 j) → z'.1 39 8 = 0 → z'.1 39 4 = 1 → (∀ k : Nat, k < 326 → z'.1 41 k = z.1 40 k) → Q (.inl none) z'
  | _, _, _ => False
def bX10_save : Nat → List (Instr × Nat)
  | 0 => [(.aload_n 0, 1), (.iconst 0, 1), (.putfield 73, 3), (.aload_n 0, 1), (.iconst 1, 1), (.putfield 91, 3), (.iconst 0, 1), (.istore_n 1, 1)]
  | 12 => [(.iload_n 1, 1), (.sipush 326, 3), (.if_icmp .ge 21, 3), (.aload_n 0, 1), (.getfield 13, 3), (.iload_n 1, 1), (.aload_n 0, 1), (.getfield 7, 3), (.iload_n 1, 1), (.iaload, 1), (.iastore, 1), (.iinc 1 1, 3), (.goto (-22), 3)]
  | 37 => [(.return_, 1)]
  | _ => []
def uX10_save : Nat → Option (List Bool)
  | 12 => some [true, true]
  | _ => none
def aX10_save : pvCa
  | _ => none
theorem bX10_save_0 : bX10_save 0 = [(.aload_n 0, 1), (.iconst 0, 1), (.putfield 73, 3), (.aload_n 0, 1), (.iconst 1, 1), (.putfield 91, 3), (.iconst 0, 1), (.istore_n 1, 1)] := rfl
theorem uX10_save_0 : uX10_save 0 = none := rfl
theorem bX10_save_12 : bX10_save 12 = [(.iload_n 1, 1), (.sipush 326, 3), (.if_icmp .ge 21, 3), (.aload_n 0, 1), (.getfield 13, 3), (.iload_n 1, 1), (.aload_n 0, 1), (.getfield 7, 3), (.iload_n 1, 1), (.iaload, 1), (.iastore, 1), (.iinc 1 1, 3), (.goto (-22), 3)] := rfl
theorem uX10_save_12 : uX10_save 12 = some [true, true] := rfl
theorem bX10_save_37 : bX10_save 37 = [(.return_, 1)] := rfl
theorem uX10_save_37 : uX10_save 37 = none := rfl
def mX10_save : Room := { frames := 0, cells := 1, slots := 6, locals := 0 }
set_option maxRecDepth 100000 in
set_option maxHeartbeats 4000000 in
theorem okX10_save : pvOkM fX10 aX10_save kX10 eX10 none bX10_save uX10_save 2 C_X10_save := by
  intro Q SW hc as z h hS hz
  unfold C_X10_save at h
  split at h
  · rename_i id
    obtain ⟨rfl, h2⟩ := h
    refine ⟨Nat.le_of_ble_eq_true rfl, ?_⟩
    have loop : ∀ (m k : Nat) (z' : pvM), k + m = 326 → frF [39, 41] [] z z' → (∀ j, j ≠ 4 → j ≠ 8 → z'.1 39 j = z.1 39 j) → z'.1 39 8 = 0 → z'.1 39 4 = 1 → (∀ j : Nat, j < k → z'.1 41 j = z.1 40 j) →
        SW 12 [some (vR 39), some (vI (k : Int))] z' := by
      intro m
      induction m using Nat.strongRecOn with
      | _ m ih =>
        intro k z' hk hf h3 h4 h5 h6
        have e40 := hf.1 40 (by decide)
        refine hc 20 _ _ _ fun _ _ => ?_
        simp only [pvSt1]
        simp only [e40, pvE_aload_n0, pvLA_s, pvLd, pvE_iconst, pvE_putfield, pvPf_0, pvPf_1, fX10_73, pvSh_0, pvSh_1, pvSh_2, pvSh_3, pvSh_4, pvSh_5, pvSh_6, pvSh_7, pvSh_8, pvSh_9, pvSh_10, pvSh_11, pvSh_12, pvSh_13, pvSh_14, pvSh_15, pvSh_16, pvSh_17, pvSh_18, pvSh_19, pvSh_20, pvSh_21, pvSh_22, pvSh_23, pvSh_24, pvSh_25, pvSh_26, pvSh_27, pvSh_28, pvSh_29, pvSh_30, pvSh_31, pvSh_32, pvSh_33, pvSh_34, pvSh_35, pvSh_36, pvSh_37, pvSh_38, pvSh_39, pvSh_40, pvSh_41, pvSh_42, pvSh_43, pvSh_44, pvSh_45, pvSh_46, pvSh_47, pvSh_48, pvSh_49, pvSh_50, pvSh_51, pvSh_52, pvSh_53, pvSh_54, pvSh_55, pvSh_56, pvSh_57, pvSh_58, pvSh_59, fX10_91, pvE_istore_n1, pvS1, List.length_cons, List.length_nil, pvClr_i, pvClr_r, pvClr_l, pvClr_d, pvClr_f, pvClr_n, pvE_iload_n1, pvLI_s, pvE_sipush, pvE_icmp_ge, pvE_getfield, pvGf_0, pvGf_1, pvGf_2, fX10_13, pvRf_0_0, pvRf_0_1, pvRf_0_2, pvRf_0_3, pvRf_0_4, pvRf_0_5, pvRf_0_6, pvRf_0_7, pvRf_0_8, pvRf_0_9, pvRf_0_10, pvRf_1_0, pvRf_3_0, pvRf_5_0, pvRf_5_1, pvRf_5_2, pvRf_9_0, pvRf_9_1, pvRf_9_2, pvRf_13_0, pvRf_13_1, pvRf_13_2, pvRf_17_0, pvRf_17_2, pvRf_20_0, pvRf_20_1, pvRf_20_2, pvRf_24_0, pvRf_24_1, pvRf_24_2, pvRf_28_0, pvRf_28_1, pvRf_28_2, pvRf_28_3, pvRf_33_0, pvRf_33_1, pvRf_36_0, pvRf_36_1, pvRf_39_0, pvRf_39_1, pvRf_39_2, pvRf_39_5, pvRf_39_6, pvRf_39_9, pvRf_39_13, pvRf_39_15, pvRf_39_16, pvRf_39_17, pvRf_39_19, pvRf_39_20, pvRf_39_22, pvRf_39_23, pvRf_39_24, pvRf_39_25, pvRf_39_29, pvRf_39_30, fX10_7, pvE_iaload, pvAI, pvE_iastore, pvE_iinc, pvIc_s, pvE_goto, pvE_return, bX10_save_0, uX10_save_0, bX10_save_12, uX10_save_12, bX10_save_37, uX10_save_37, pvMk_t, pvMk_f, pvMk_n, pvRecv_r, pvUp_nl, pvUp_same, pvUp_ap, pvSt_ap, pvX_c, pvX_ms, pvX_mn, pvE_nil, pvEn_i, pvEn_r, pvEn_l, pvEn_0, pvEn_s, pvRt, pvRv, pvTh, pvKc, pvGo, pvTgt, Int.toNat_natCast, false_and, and_false, true_and, and_true, if_true, if_false, reduceIte, reduceCtorEq, forall_const, false_or, or_false, true_or, or_true, ne_eq, not_true_eq_false, not_false_eq_true, implies_true, false_implies, Nat.reduceAdd, Nat.reduceSub, Nat.reduceMul, Nat.reduceEqDiff, Nat.reduceLT, Nat.reduceLeDiff, Int.reduceAdd, Int.reduceSub, Int.reduceMul, Int.reduceNeg, Int.reduceToNat, Int.reduceLE, Int.reduceLT, Int.reduceEq, Int.reduceNe, and_self]
        by_cases hx : 326 ≤ k
        · (repeat' (first | with_reducible apply And.intro | intro _))
          all_goals first
            | omega
            | contradiction
            | exact h2 _ hf h3 h4 h5 (fun j hj => h6 j (by omega))
        · have ihk := ih (m - 1) (by omega) (k + 1) (pvUp z'.1 41 k (z.1 40 k), z'.2) (by omega) (by (repeat' first | assumption | exact frF_0 | (refine frF_u ?_ (by decide)) | (refine frF_s ?_ (by decide)) | (refine frF_l ?_ (by decide)))) (fun j h1 h2 => by simp [pvUp_ap]; exact h3 j h1 h2) (by simp [pvUp_ap, h4]) (by simp [pvUp_ap, h5]) (fun j hj => by simp only [pvUp_ap]; grind)
          (repeat' (first | with_reducible apply And.intro | intro _))
          all_goals first
            | omega
            | contradiction
            | exact ihk
    refine hc 20 _ _ _ fun _ _ => ?_
    simp only [pvSt1]
    simp only [pvE_aload_n0, pvLA_s, pvLd, pvE_iconst, pvE_putfield, pvPf_0, pvPf_1, fX10_73, pvSh_0, pvSh_1, pvSh_2, pvSh_3, pvSh_4, pvSh_5, pvSh_6, pvSh_7, pvSh_8, pvSh_9, pvSh_10, pvSh_11, pvSh_12, pvSh_13, pvSh_14, pvSh_15, pvSh_16, pvSh_17, pvSh_18, pvSh_19, pvSh_20, pvSh_21, pvSh_22, pvSh_23, pvSh_24, pvSh_25, pvSh_26, pvSh_27, pvSh_28, pvSh_29, pvSh_30, pvSh_31, pvSh_32, pvSh_33, pvSh_34, pvSh_35, pvSh_36, pvSh_37, pvSh_38, pvSh_39, pvSh_40, pvSh_41, pvSh_42, pvSh_43, pvSh_44, pvSh_45, pvSh_46, pvSh_47, pvSh_48, pvSh_49, pvSh_50, pvSh_51, pvSh_52, pvSh_53, pvSh_54, pvSh_55, pvSh_56, pvSh_57, pvSh_58, pvSh_59, fX10_91, pvE_istore_n1, pvS1, List.length_cons, List.length_nil, pvClr_i, pvClr_r, pvClr_l, pvClr_d, pvClr_f, pvClr_n, pvE_iload_n1, pvLI_s, pvE_sipush, pvE_icmp_ge, pvE_getfield, pvGf_0, pvGf_1, pvGf_2, fX10_13, pvRf_0_0, pvRf_0_1, pvRf_0_2, pvRf_0_3, pvRf_0_4, pvRf_0_5, pvRf_0_6, pvRf_0_7, pvRf_0_8, pvRf_0_9, pvRf_0_10, pvRf_1_0, pvRf_3_0, pvRf_5_0, pvRf_5_1, pvRf_5_2, pvRf_9_0, pvRf_9_1, pvRf_9_2, pvRf_13_0, pvRf_13_1, pvRf_13_2, pvRf_17_0, pvRf_17_2, pvRf_20_0, pvRf_20_1, pvRf_20_2, pvRf_24_0, pvRf_24_1, pvRf_24_2, pvRf_28_0, pvRf_28_1, pvRf_28_2, pvRf_28_3, pvRf_33_0, pvRf_33_1, pvRf_36_0, pvRf_36_1, pvRf_39_0, pvRf_39_1, pvRf_39_2, pvRf_39_5, pvRf_39_6, pvRf_39_9, pvRf_39_13, pvRf_39_15, pvRf_39_16, pvRf_39_17, pvRf_39_19, pvRf_39_20, pvRf_39_22, pvRf_39_23, pvRf_39_24, pvRf_39_25, pvRf_39_29, pvRf_39_30, fX10_7, pvE_iaload, pvAI, pvE_iastore, pvE_iinc, pvIc_s, pvE_goto, pvE_return, bX10_save_0, uX10_save_0, bX10_save_12, uX10_save_12, bX10_save_37, uX10_save_37, pvMk_t, pvMk_f, pvMk_n, pvRecv_r, pvUp_nl, pvUp_same, pvUp_ap, pvSt_ap, pvX_c, pvX_ms, pvX_mn, pvE_nil, pvEn_i, pvEn_r, pvEn_l, pvEn_0, pvEn_s, pvRt, pvRv, pvTh, pvKc, pvGo, pvTgt, Int.toNat_natCast, false_and, and_false, true_and, and_true, if_true, if_false, reduceIte, reduceCtorEq, forall_const, false_or, or_false, true_or, or_true, ne_eq, not_true_eq_false, not_false_eq_true, implies_true, false_implies, Nat.reduceAdd, Nat.reduceSub, Nat.reduceMul, Nat.reduceEqDiff, Nat.reduceLT, Nat.reduceLeDiff, Int.reduceAdd, Int.reduceSub, Int.reduceMul, Int.reduceNeg, Int.reduceToNat, Int.reduceLE, Int.reduceLT, Int.reduceEq, Int.reduceNe, and_self]
    (repeat' (first | with_reducible apply And.intro | intro _))
    all_goals first
      | omega
      | (refine loop 326 0 _ rfl (by (repeat' first | assumption | exact frF_0 | (refine frF_u ?_ (by decide)) | (refine frF_s ?_ (by decide)) | (refine frF_l ?_ (by decide)))) (fun j h1 h2 => ?_) ?_ ?_ (fun j h1 => by omega) <;> simp [pvUp_ap] <;> grind)
  · exact h.elim
def C_X10_restore : pvC
  | [.inr (.inr (.inl id))], z, Q => id = 39 ∧ ((0 ≤ z.1 39 3 ∧ z.1 39 3 ≤ 8) ∧ (z.1 39 4 = 0 ∨ z.1 39 4 = 1)) ∧ (z.1 39 4 = 0 → Q (.inl none) (pvUp z.1 39 8 1, z.2)) ∧
      ∀ z' : pvM, z.1 39 4 = 1 → frF [39, 40, 42] [] z z' → (∀ j, j ≠ 3 → j ≠ 8 → z'.1 39 j = z.1 39 j) → z'.1 39 8 = 0 → chgF z z' → (∀ k : Nat, k < 326 → z'.1 40 k = z.1 41 k) → Q (.inl none) z'
  | _, _, _ => False
def bX10_restore : Nat → List (Instr × Nat)
  | 0 => [(.aload_n 0, 1), (.aload_n 0, 1), (.getfield 91, 3), (.ifCond .eq 7, 3), (.iconst 0, 1), (.goto 4, 3)]
  | 12 => [(.iconst 1, 1)]
  | 13 => [(.putfield 73, 3), (.aload_n 0, 1), (.getfield 91, 3), (.ifCond .ne 4, 3), (.return_, 1)]
  | 24 => [(.aload_n 0, 1), (.invokevirtual 95, 3), (.iconst 0, 1), (.istore_n 1, 1)]
  | 30 => [(.iload_n 1, 1), (.sipush 326, 3), (.if_icmp .ge 21, 3), (.aload_n 0, 1), (.getfield 7, 3), (.iload_n 1, 1), (.aload_n 0, 1), (.getfield 13, 3), (.iload_n 1, 1), (.iaload, 1), (.iastore, 1), (.iinc 1 1, 3), (.goto (-22), 3)]
  | 55 => [(.return_, 1)]
  | _ => []
def uX10_restore : Nat → Option (List Bool)
  | 30 => some [true, true]
  | _ => none
def aX10_restore : pvCa
  | 95 => some (1, false, 9, 0, C_X10_changes)
  | _ => none
theorem bX10_restore_0 : bX10_restore 0 = [(.aload_n 0, 1), (.aload_n 0, 1), (.getfield 91, 3), (.ifCond .eq 7, 3), (.iconst 0, 1), (.goto 4, 3)] := rfl
theorem uX10_restore_0 : uX10_restore 0 = none := rfl
theorem bX10_restore_12 : bX10_restore 12 = [(.iconst 1, 1)] := rfl
theorem uX10_restore_12 : uX10_restore 12 = none := rfl
theorem bX10_restore_13 : bX10_restore 13 = [(.putfield 73, 3), (.aload_n 0, 1), (.getfield 91, 3), (.ifCond .ne 4, 3), (.return_, 1)] := rfl
theorem uX10_restore_13 : uX10_restore 13 = none := rfl
theorem bX10_restore_24 : bX10_restore 24 = [(.aload_n 0, 1), (.invokevirtual 95, 3), (.iconst 0, 1), (.istore_n 1, 1)] := rfl
theorem uX10_restore_24 : uX10_restore 24 = none := rfl
theorem bX10_restore_30 : bX10_restore 30 = [(.iload_n 1, 1), (.sipush 326, 3), (.if_icmp .ge 21, 3), (.aload_n 0, 1), (.getfield 7, 3), (.iload_n 1, 1), (.aload_n 0, 1), (.getfield 13, 3), (.iload_n 1, 1), (.iaload, 1), (.iastore, 1), (.iinc 1 1, 3), (.goto (-22), 3)] := rfl
theorem uX10_restore_30 : uX10_restore 30 = some [true, true] := rfl
theorem bX10_restore_55 : bX10_restore 55 = [(.return_, 1)] := rfl
theorem uX10_restore_55 : uX10_restore 55 = none := rfl
theorem aX10_restore_95 : aX10_restore 95 = some (1, false, 9, 0, C_X10_changes) := rfl
def mX10_restore : Room := { frames := 1, cells := 1, slots := 6, locals := 21 }
set_option maxRecDepth 100000 in
set_option maxHeartbeats 4000000 in
theorem okX10_restore : pvOkM fX10 aX10_restore kX10 eX10 none bX10_restore uX10_restore 2 C_X10_restore := by
  intro Q SW hc as z h hS hz
  unfold C_X10_restore at h
  split at h
  · rename_i id
    obtain ⟨rfl, ⟨hp, hb⟩, h1, h2⟩ := h
    refine ⟨Nat.le_of_ble_eq_true rfl, ?_⟩
    have loop : ∀ (m k : Nat) (z' : pvM), k + m = 326 → z.1 39 4 = 1 → frF [39, 40, 42] [] z z' → (∀ j, j ≠ 3 → j ≠ 8 → z'.1 39 j = z.1 39 j) → z'.1 39 8 = 0 → chgF z z' → (∀ j : Nat, j < k → z'.1 40 j = z.1 41 j) →
        SW 30 [some (vR 39), some (vI (k : Int))] z' := by
      intro m
      induction m using Nat.strongRecOn with
      | _ m ih =>
        intro k z' hk h0 hf h3 h4 h5 h6
        have e41 := hf.1 41 (by decide)
        refine hc 20 _ _ _ fun _ _ => ?_
        simp only [pvSt1]
        simp only [e41, pvE_aload_n0, pvLA_s, pvLd, pvE_getfield, pvGf_0, pvGf_1, pvGf_2, fX10_91, pvSh_0, pvSh_1, pvSh_2, pvSh_3, pvSh_4, pvSh_5, pvSh_6, pvSh_7, pvSh_8, pvSh_9, pvSh_10, pvSh_11, pvSh_12, pvSh_13, pvSh_14, pvSh_15, pvSh_16, pvSh_17, pvSh_18, pvSh_19, pvSh_20, pvSh_21, pvSh_22, pvSh_23, pvSh_24, pvSh_25, pvSh_26, pvSh_27, pvSh_28, pvSh_29, pvSh_30, pvSh_31, pvSh_32, pvSh_33, pvSh_34, pvSh_35, pvSh_36, pvSh_37, pvSh_38, pvSh_39, pvSh_40, pvSh_41, pvSh_42, pvSh_43, pvSh_44, pvSh_45, pvSh_46, pvSh_47, pvSh_48, pvSh_49, pvSh_50, pvSh_51, pvSh_52, pvSh_53, pvSh_54, pvSh_55, pvSh_56, pvSh_57, pvSh_58, pvSh_59, pvRf_0_0, pvRf_0_1, pvRf_0_2, pvRf_0_3, pvRf_0_4, pvRf_0_5, pvRf_0_6, pvRf_0_7, pvRf_0_8, pvRf_0_9, pvRf_0_10, pvRf_1_0, pvRf_3_0, pvRf_5_0, pvRf_5_1, pvRf_5_2, pvRf_9_0, pvRf_9_1, pvRf_9_2, pvRf_13_0, pvRf_13_1, pvRf_13_2, pvRf_17_0, pvRf_17_2, pvRf_20_0, pvRf_20_1, pvRf_20_2, pvRf_24_0, pvRf_24_1, pvRf_24_2, pvRf_28_0, pvRf_28_1, pvRf_28_2, pvRf_28_3, pvRf_33_0, pvRf_33_1, pvRf_36_0, pvRf_36_1, pvRf_39_0, pvRf_39_1, pvRf_39_2, pvRf_39_5, pvRf_39_6, pvRf_39_9, pvRf_39_13, pvRf_39_15, pvRf_39_16, pvRf_39_17, pvRf_39_19, pvRf_39_20, pvRf_39_22, pvRf_39_23, pvRf_39_24, pvRf_39_25, pvRf_39_29, pvRf_39_30, pvE_if_eq, pvE_iconst, pvE_goto, pvE_putfield, pvPf_0, pvPf_1, fX10_73, pvE_if_ne, pvE_return, pvE_invokevirtual, pvC1_s, pvC2_s, pvAf_v, pvAf_x, pvPop, pvCs, pvCat, pvPush, aX10_restore_95, pvE_istore_n1, pvS1, List.length_cons, List.length_nil, pvClr_i, pvClr_r, pvClr_l, pvClr_d, pvClr_f, pvClr_n, pvE_iload_n1, pvLI_s, pvE_sipush, pvE_icmp_ge, fX10_7, fX10_13, pvE_iaload, pvAI, pvE_iastore, pvE_iinc, pvIc_s, bX10_restore_0, uX10_restore_0, bX10_restore_12, uX10_restore_12, bX10_restore_13, uX10_restore_13, bX10_restore_24, uX10_restore_24, bX10_restore_30, uX10_restore_30, bX10_restore_55, uX10_restore_55, pvMk_t, pvMk_f, pvMk_n, pvRecv_r, pvUp_nl, pvUp_same, pvUp_ap, pvSt_ap, pvX_c, pvX_ms, pvX_mn, pvE_nil, pvEn_i, pvEn_r, pvEn_l, pvEn_0, pvEn_s, pvRt, pvRv, pvTh, pvKc, pvGo, pvTgt, Int.toNat_natCast, false_and, and_false, true_and, and_true, if_true, if_false, reduceIte, reduceCtorEq, forall_const, false_or, or_false, true_or, or_true, ne_eq, not_true_eq_false, not_false_eq_true, implies_true, false_implies, Nat.reduceAdd, Nat.reduceSub, Nat.reduceMul, Nat.reduceEqDiff, Nat.reduceLT, Nat.reduceLeDiff, Int.reduceAdd, Int.reduceSub, Int.reduceMul, Int.reduceNeg, Int.reduceToNat, Int.reduceLE, Int.reduceLT, Int.reduceEq, Int.reduceNe, and_self]
        by_cases hx : 326 ≤ k
        · (repeat' (first | with_reducible apply And.intro | intro _))
          all_goals first
            | omega
            | contradiction
            | exact h2 _ h0 hf h3 h4 h5 (fun j hj => h6 j (by omega))
        · have ihk := ih (m - 1) (by omega) (k + 1) (pvUp z'.1 40 k (z.1 41 k), z'.2) (by omega) h0 (by (repeat' first | assumption | exact frF_0 | (refine frF_u ?_ (by decide)) | (refine frF_s ?_ (by decide)) | (refine frF_l ?_ (by decide)))) (fun j h1 h2 => by simp [pvUp_ap]; exact h3 j h1 h2) (by simp [pvUp_ap, h4]) (by simp only [chgF, pvUp_ap, Nat.reduceEqDiff, false_and, if_false, reduceIte]; exact h5) (fun j hj => by simp only [pvUp_ap]; grind)
          (repeat' (first | with_reducible apply And.intro | intro _))
          all_goals first
            | omega
            | contradiction
            | exact ihk
    refine hc 20 _ _ _ fun _ _ => ?_
    simp only [pvSt1]
    simp only [C_X10_changes, pvE_aload_n0, pvLA_s, pvLd, pvE_getfield, pvGf_0, pvGf_1, pvGf_2, fX10_91, pvSh_0, pvSh_1, pvSh_2, pvSh_3, pvSh_4, pvSh_5, pvSh_6, pvSh_7, pvSh_8, pvSh_9, pvSh_10, pvSh_11, pvSh_12, pvSh_13, pvSh_14, pvSh_15, pvSh_16, pvSh_17, pvSh_18, pvSh_19, pvSh_20, pvSh_21, pvSh_22, pvSh_23, pvSh_24, pvSh_25, pvSh_26, pvSh_27, pvSh_28, pvSh_29, pvSh_30, pvSh_31, pvSh_32, pvSh_33, pvSh_34, pvSh_35, pvSh_36, pvSh_37, pvSh_38, pvSh_39, pvSh_40, pvSh_41, pvSh_42, pvSh_43, pvSh_44, pvSh_45, pvSh_46, pvSh_47, pvSh_48, pvSh_49, pvSh_50, pvSh_51, pvSh_52, pvSh_53, pvSh_54, pvSh_55, pvSh_56, pvSh_57, pvSh_58, pvSh_59, pvRf_0_0, pvRf_0_1, pvRf_0_2, pvRf_0_3, pvRf_0_4, pvRf_0_5, pvRf_0_6, pvRf_0_7, pvRf_0_8, pvRf_0_9, pvRf_0_10, pvRf_1_0, pvRf_3_0, pvRf_5_0, pvRf_5_1, pvRf_5_2, pvRf_9_0, pvRf_9_1, pvRf_9_2, pvRf_13_0, pvRf_13_1, pvRf_13_2, pvRf_17_0, pvRf_17_2, pvRf_20_0, pvRf_20_1, pvRf_20_2, pvRf_24_0, pvRf_24_1, pvRf_24_2, pvRf_28_0, pvRf_28_1, pvRf_28_2, pvRf_28_3, pvRf_33_0, pvRf_33_1, pvRf_36_0, pvRf_36_1, pvRf_39_0, pvRf_39_1, pvRf_39_2, pvRf_39_5, pvRf_39_6, pvRf_39_9, pvRf_39_13, pvRf_39_15, pvRf_39_16, pvRf_39_17, pvRf_39_19, pvRf_39_20, pvRf_39_22, pvRf_39_23, pvRf_39_24, pvRf_39_25, pvRf_39_29, pvRf_39_30, pvE_if_eq, pvE_iconst, pvE_goto, pvE_putfield, pvPf_0, pvPf_1, fX10_73, pvE_if_ne, pvE_return, pvE_invokevirtual, pvC1_s, pvC2_s, pvAf_v, pvAf_x, pvPop, pvCs, pvCat, pvPush, aX10_restore_95, pvE_istore_n1, pvS1, List.length_cons, List.length_nil, pvClr_i, pvClr_r, pvClr_l, pvClr_d, pvClr_f, pvClr_n, pvE_iload_n1, pvLI_s, pvE_sipush, pvE_icmp_ge, fX10_7, fX10_13, pvE_iaload, pvAI, pvE_iastore, pvE_iinc, pvIc_s, bX10_restore_0, uX10_restore_0, bX10_restore_12, uX10_restore_12, bX10_restore_13, uX10_restore_13, bX10_restore_24, uX10_restore_24, bX10_restore_30, uX10_restore_30, bX10_restore_55, uX10_restore_55, pvMk_t, pvMk_f, pvMk_n, pvRecv_r, pvUp_nl, pvUp_same, pvUp_ap, pvSt_ap, pvX_c, pvX_ms, pvX_mn, pvE_nil, pvEn_i, pvEn_r, pvEn_l, pvEn_0, pvEn_s, pvRt, pvRv, pvTh, pvKc, pvGo, pvTgt, Int.toNat_natCast, false_and, and_false, true_and, and_true, if_true, if_false, reduceIte, reduceCtorEq, forall_const, false_or, or_false, true_or, or_true, ne_eq, not_true_eq_false, not_false_eq_true, implies_true, false_implies, Nat.reduceAdd, Nat.reduceSub, Nat.reduceMul, Nat.reduceEqDiff, Nat.reduceLT, Nat.reduceLeDiff, Int.reduceAdd, Int.reduceSub, Int.reduceMul, Int.reduceNeg, Int.reduceToNat, Int.reduceLE, Int.reduceLT, Int.reduceEq, Int.reduceNe, and_self]
    rcases hb with hb | hb
    · (repeat' (first | with_reducible apply And.intro | intro _))
      all_goals first
        | omega
        | exact h1 hb
    · (repeat' (first | with_reducible apply And.intro | intro _))
      all_goals first
        | omega
        | (rename_i z1 f1 k1 c1
           refine loop 326 0 z1 rfl hb (frF_t (frF_u frF_0 (by decide)) f1 (by decide) (by decide)) (fun j h1 h2 => ?_) ?_ ?_ (fun j h1 => by omega)
           · rw [k1 j h1]; simp [pvUp_ap, h2]
           · rw [k1 8 (by decide)]; simp [pvUp_ap]
           · simp only [chgF, pvUp_ap, Nat.reduceEqDiff, false_and, and_false, true_and, if_false, reduceIte] at c1; exact c1)
  · exact h.elim
