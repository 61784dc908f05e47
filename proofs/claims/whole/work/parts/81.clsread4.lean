/-! the class: constraints read, and whether an automaton is deterministic -/
def C_X9_constraint : pvC
  | [.inr (.inr (.inl id)), .inl s, .inl t, .inl i, .inl c], z, Q => id = 0 ∧ (0 ≤ s ∧ s ≤ 1 → WfC (z.1 (rwC s))) ∧
      (trC z s t ∧ (0 ≤ i ∧ i < (autC (z.1 (rwC s))).2.2.2 t.toNat 3) ∧ 0 ≤ c ∧ c ≤ 2 → Q (.inl (some (vI ((autC (z.1 (rwC s))).2.2.2 t.toNat (4 + 3 * i + c).toNat)))) z) ∧
      (¬ (trC z s t ∧ (0 ≤ i ∧ i < (autC (z.1 (rwC s))).2.2.2 t.toNat 3) ∧ 0 ≤ c ∧ c ≤ 2) → Q (.inr 0) z)
  | _, _, _ => False
def bX9_constraint : Nat → List (Instr × Nat)
  | 0 => [(.aload_n 0, 1), (.iload_n 1, 1), (.iload_n 2, 1), (.invokevirtual 119, 3), (.iload_n 3, 1), (.aload_n 0, 1), (.iload_n 1, 1), (.invokevirtual 104, 3), (.iload_n 2, 1), (.invokevirtual 157, 3), (.invokestatic 97, 3), (.iload 4, 2), (.iconst 3, 1), (.invokestatic 97, 3), (.aload_n 0, 1), (.iload_n 1, 1), (.invokevirtual 104, 3), (.iload_n 2, 1), (.iload_n 3, 1), (.iload 4, 2), (.invokevirtual 160, 3), (.ireturn, 1)]
  | _ => []
def uX9_constraint : Nat → Option (List Bool)
  | _ => none
def aX9_constraint : pvCa
  | 97 => some (2, true, 0, 0, C_X9_requireIndex)
  | 104 => some (2, false, 8, 0, C_X9_automaton)
  | 119 => some (3, false, 8, 0, C_X9_requireTransition)
  | 157 => some (2, false, 0, 0, C_X0_guardSize)
  | 160 => some (4, false, 0, 0, C_X0_constraintCell)
  | _ => none
theorem bX9_constraint_0 : bX9_constraint 0 = [(.aload_n 0, 1), (.iload_n 1, 1), (.iload_n 2, 1), (.invokevirtual 119, 3), (.iload_n 3, 1), (.aload_n 0, 1), (.iload_n 1, 1), (.invokevirtual 104, 3), (.iload_n 2, 1), (.invokevirtual 157, 3), (.invokestatic 97, 3), (.iload 4, 2), (.iconst 3, 1), (.invokestatic 97, 3), (.aload_n 0, 1), (.iload_n 1, 1), (.invokevirtual 104, 3), (.iload_n 2, 1), (.iload_n 3, 1), (.iload 4, 2), (.invokevirtual 160, 3), (.ireturn, 1)] := rfl
theorem uX9_constraint_0 : uX9_constraint 0 = none := rfl
theorem aX9_constraint_97 : aX9_constraint 97 = some (2, true, 0, 0, C_X9_requireIndex) := rfl
theorem aX9_constraint_104 : aX9_constraint 104 = some (2, false, 8, 0, C_X9_automaton) := rfl
theorem aX9_constraint_119 : aX9_constraint 119 = some (3, false, 8, 0, C_X9_requireTransition) := rfl
theorem aX9_constraint_157 : aX9_constraint 157 = some (2, false, 0, 0, C_X0_guardSize) := rfl
theorem aX9_constraint_160 : aX9_constraint 160 = some (4, false, 0, 0, C_X0_constraintCell) := rfl
def mX9_constraint : Room := { frames := 8, cells := 1, slots := 6, locals := 124 }
set_option maxRecDepth 100000 in
set_option maxHeartbeats 4000000 in
theorem okX9_constraint : pvOkM fX9 aX9_constraint kX9 eX9 (some .int) bX9_constraint uX9_constraint 5 C_X9_constraint := by
  intro Q SW hc as z h hS hz
  unfold C_X9_constraint at h
  split at h
  · rename_i id s t i c
    obtain ⟨rfl, hw, h1, h2⟩ := h
    refine ⟨Nat.le_of_ble_eq_true rfl, hc 20 _ _ _ fun _ _ => ?_⟩
    clear hc hS hz
    simp only [pvSt1]
    simp only [C_X9_requireTransition, C_X9_requireIndex, C_X9_automaton, C_X0_guardSize, C_X0_constraintCell, pvE_aload_n0, pvLA_s, pvLd, pvE_iload_n1, pvLI_s, pvE_iload_n2, pvE_invokevirtual, pvC1_s, pvC2_s, pvAf_v, pvAf_x, pvPop, pvCs, pvCat, pvPush, aX9_constraint_119, pvSh_0, pvSh_1, pvSh_2, pvSh_3, pvSh_4, pvSh_5, pvSh_6, pvSh_7, pvSh_8, pvSh_9, pvSh_10, pvSh_11, pvSh_12, pvSh_13, pvSh_14, pvSh_15, pvSh_16, pvSh_17, pvSh_18, pvSh_19, pvSh_20, pvSh_21, pvSh_22, pvSh_23, pvSh_24, pvSh_25, pvSh_26, pvSh_27, pvSh_28, pvSh_29, pvSh_30, pvSh_31, pvSh_32, pvSh_33, pvSh_34, pvSh_35, pvSh_36, pvSh_37, pvSh_38, pvSh_39, pvSh_40, pvSh_41, pvSh_42, pvSh_43, pvSh_44, pvSh_45, pvSh_46, pvSh_47, pvSh_48, pvSh_49, pvSh_50, pvSh_51, pvSh_52, pvSh_53, pvSh_54, pvSh_55, pvSh_56, pvSh_57, pvSh_58, pvSh_59, pvE_iload_n3, aX9_constraint_104, aX9_constraint_157, pvE_invokestatic (h0 := eX9_97), aX9_constraint_97, pvE_iload, pvE_iconst, aX9_constraint_160, pvE_ireturn, bX9_constraint_0, uX9_constraint_0, pvRecv_r, pvUp_nl, pvUp_same, pvUp_ap, pvSt_ap, pvX_c, pvX_ms, pvX_mn, pvE_nil, pvEn_i, pvEn_r, pvEn_l, pvEn_0, pvEn_s, pvRt, pvRv, pvTh, pvKc, pvGo, pvTgt, Int.toNat_natCast, false_and, and_false, true_and, and_true, if_true, if_false, reduceIte, reduceCtorEq, forall_const, false_or, or_false, true_or, or_true, ne_eq, not_true_eq_false, not_false_eq_true, implies_true, false_implies, Nat.reduceAdd, Nat.reduceSub, Nat.reduceMul, Nat.reduceEqDiff, Nat.reduceLT, Nat.reduceLeDiff, Int.reduceAdd, Int.reduceSub, Int.reduceMul, Int.reduceNeg, Int.reduceToNat, Int.reduceLE, Int.reduceLT, Int.reduceEq, Int.reduceNe, and_self]
    by_cases hv : trC z s t
    · have hw2 := hw hv.1
      have hn := hw2.1.1
      have hv2 := hv.2
      rcases (show s = 0 ∨ s = 1 by have := hv.1; omega) with rfl | rfl
      · have e : rwC 0 = 2 := rfl
        rw [e] at h1 h2 hv2 hn hw2
        have hlt : ((t.toNat : Nat) : Int) < z.1 2 0 := by have : t < z.1 2 0 := hv2.2; omega
        have hw3 := (autC_w hw2 hlt).2.2.2.1
        rw [aC_c hlt (Or.inl (by decide))] at h1 h2
        by_cases hi : 0 ≤ i ∧ i < cT (z.1 2) t.toNat 3
        · by_cases hx : 0 ≤ c ∧ c ≤ 2
          · have h3 := h1 ⟨hv, hi, hx⟩
            rw [aC_c hlt (Or.inr (by omega))] at h3
            (repeat' first | with_reducible apply And.intro | with_reducible intro _) <;> first | omega | assumption | contradiction
          · have h3 := h2 (fun q => hx q.2.2)
            (repeat' first | with_reducible apply And.intro | with_reducible intro _) <;> first | omega | assumption | contradiction
        · have h3 := h2 (fun q => hi q.2.1)
          (repeat' first | with_reducible apply And.intro | with_reducible intro _) <;> first | omega | assumption | contradiction
      · have e : rwC 1 = 4 := rfl
        rw [e] at h1 h2 hv2 hn hw2
        have hlt : ((t.toNat : Nat) : Int) < z.1 4 0 := by have : t < z.1 4 0 := hv2.2; omega
        have hw3 := (autC_w hw2 hlt).2.2.2.1
        rw [aC_c hlt (Or.inl (by decide))] at h1 h2
        by_cases hi : 0 ≤ i ∧ i < cT (z.1 4) t.toNat 3
        · by_cases hx : 0 ≤ c ∧ c ≤ 2
          · have h3 := h1 ⟨hv, hi, hx⟩
            rw [aC_c hlt (Or.inr (by omega))] at h3
            (repeat' first | with_reducible apply And.intro | with_reducible intro _) <;> first | omega | assumption | contradiction
          · have h3 := h2 (fun q => hx q.2.2)
            (repeat' first | with_reducible apply And.intro | with_reducible intro _) <;> first | omega | assumption | contradiction
        · have h3 := h2 (fun q => hi q.2.1)
          (repeat' first | with_reducible apply And.intro | with_reducible intro _) <;> first | omega | assumption | contradiction
    · have h3 := h2 (fun q => hv q.1)
      (repeat' first | with_reducible apply And.intro | with_reducible intro _) <;> first | omega | assumption | contradiction
  · exact h.elim
def C_X9_blockingConstraint : pvC
  | [.inr (.inr (.inl id)), .inl s, .inl t, .inl i], z, Q => id = 0 ∧ ((0 ≤ s ∧ s ≤ 1 → WfC (z.1 (rwC s))) ∧ WcF z.1) ∧
      (¬ (trC z s t ∧ 0 ≤ i ∧ i < z.1 20 4) → Q (.inr 0) z) ∧
      (trC z s t ∧ 0 ≤ i ∧ i < z.1 20 4 → (autC (z.1 (rwC s))).2.2.2 t.toNat 1 ≠ z.1 22 i.toNat → Q (.inr 1) z) ∧
      (trC z s t ∧ 0 ≤ i ∧ i < z.1 20 4 → (autC (z.1 (rwC s))).2.2.2 t.toNat 1 = z.1 22 i.toNat → Q (.inl (some (vI (blF ((autC (z.1 (rwC s))).2.2.2 t.toNat) (psF (vaF (z.1 21) (z.1 22) i.toNat) (z.1 21 i.toNat)))))) z)
  | _, _, _ => False
def bX9_blockingConstraint : Nat → List (Instr × Nat)
  | 0 => [(.aload_n 0, 1), (.iload_n 1, 1), (.iload_n 2, 1), (.invokevirtual 119, 3), (.iload_n 3, 1), (.aload_n 0, 1), (.getfield 42, 3), (.getfield 172, 3), (.invokestatic 97, 3), (.aload_n 0, 1), (.iload_n 1, 1), (.invokevirtual 104, 3), (.astore 4, 2), (.aload 4, 2), (.iload_n 2, 1), (.invokevirtual 211, 3), (.aload_n 0, 1), (.getfield 42, 3), (.iload_n 3, 1), (.invokevirtual 183, 3), (.if_icmp .ne 7, 3), (.iconst 1, 1), (.goto 4, 3)]
  | 45 => [(.iconst 0, 1)]
  | 46 => [(.invokestatic 78, 3), (.aload 4, 2), (.iload_n 2, 1), (.aload_n 0, 1), (.getfield 42, 3), (.iload_n 3, 1), (.invokevirtual 186, 3), (.invokevirtual 214, 3), (.ireturn, 1)]
  | _ => []
def uX9_blockingConstraint : Nat → Option (List Bool)
  | _ => none
def aX9_blockingConstraint : pvCa
  | 78 => some (1, true, 0, 0, C_X9_requireArgument)
  | 97 => some (2, true, 0, 0, C_X9_requireIndex)
  | 104 => some (2, false, 8, 0, C_X9_automaton)
  | 119 => some (3, false, 8, 0, C_X9_requireTransition)
  | 183 => some (2, false, 6, 0, C_X6_letterAt)
  | 186 => some (2, false, 6, 0, C_X6_valuationAt)
  | 211 => some (2, false, 0, 0, C_X0_letter)
  | 214 => some (3, false, 0, 0, C_X0_firstUnsatisfied)
  | _ => none
theorem bX9_blockingConstraint_0 : bX9_blockingConstraint 0 = [(.aload_n 0, 1), (.iload_n 1, 1), (.iload_n 2, 1), (.invokevirtual 119, 3), (.iload_n 3, 1), (.aload_n 0, 1), (.getfield 42, 3), (.getfield 172, 3), (.invokestatic 97, 3), (.aload_n 0, 1), (.iload_n 1, 1), (.invokevirtual 104, 3), (.astore 4, 2), (.aload 4, 2), (.iload_n 2, 1), (.invokevirtual 211, 3), (.aload_n 0, 1), (.getfield 42, 3), (.iload_n 3, 1), (.invokevirtual 183, 3), (.if_icmp .ne 7, 3), (.iconst 1, 1), (.goto 4, 3)] := rfl
theorem uX9_blockingConstraint_0 : uX9_blockingConstraint 0 = none := rfl
theorem bX9_blockingConstraint_45 : bX9_blockingConstraint 45 = [(.iconst 0, 1)] := rfl
theorem uX9_blockingConstraint_45 : uX9_blockingConstraint 45 = none := rfl
theorem bX9_blockingConstraint_46 : bX9_blockingConstraint 46 = [(.invokestatic 78, 3), (.aload 4, 2), (.iload_n 2, 1), (.aload_n 0, 1), (.getfield 42, 3), (.iload_n 3, 1), (.invokevirtual 186, 3), (.invokevirtual 214, 3), (.ireturn, 1)] := rfl
theorem uX9_blockingConstraint_46 : uX9_blockingConstraint 46 = none := rfl
theorem aX9_blockingConstraint_78 : aX9_blockingConstraint 78 = some (1, true, 0, 0, C_X9_requireArgument) := rfl
theorem aX9_blockingConstraint_97 : aX9_blockingConstraint 97 = some (2, true, 0, 0, C_X9_requireIndex) := rfl
theorem aX9_blockingConstraint_104 : aX9_blockingConstraint 104 = some (2, false, 8, 0, C_X9_automaton) := rfl
theorem aX9_blockingConstraint_119 : aX9_blockingConstraint 119 = some (3, false, 8, 0, C_X9_requireTransition) := rfl
theorem aX9_blockingConstraint_183 : aX9_blockingConstraint 183 = some (2, false, 6, 0, C_X6_letterAt) := rfl
theorem aX9_blockingConstraint_186 : aX9_blockingConstraint 186 = some (2, false, 6, 0, C_X6_valuationAt) := rfl
theorem aX9_blockingConstraint_211 : aX9_blockingConstraint 211 = some (2, false, 0, 0, C_X0_letter) := rfl
theorem aX9_blockingConstraint_214 : aX9_blockingConstraint 214 = some (3, false, 0, 0, C_X0_firstUnsatisfied) := rfl
def mX9_blockingConstraint : Room := { frames := 8, cells := 1, slots := 6, locals := 124 }
set_option maxRecDepth 100000 in
set_option maxHeartbeats 4000000 in
theorem okX9_blockingConstraint : pvOkM fX9 aX9_blockingConstraint kX9 eX9 (some .int) bX9_blockingConstraint uX9_blockingConstraint 5 C_X9_blockingConstraint := by
  intro Q SW hc as z h hS hz
  unfold C_X9_blockingConstraint at h
  split at h
  · rename_i id s t i
    obtain ⟨rfl, ⟨hw, hwc⟩, h1, h2, h3⟩ := h
    refine ⟨Nat.le_of_ble_eq_true rfl, hc 20 _ _ _ fun _ _ => ?_⟩
    clear hc hS hz
    have w4 := hwc.1.1
    simp only [pvSt1]
    simp only [C_X9_requireTransition, C_X9_requireIndex, C_X9_requireArgument, C_X9_automaton, C_X0_letter, C_X6_letterAt, C_X6_valuationAt, C_X0_firstUnsatisfied, pvE_aload_n0, pvLA_s, pvLd, pvE_iload_n1, pvLI_s, pvE_iload_n2, pvE_invokevirtual, pvC1_s, pvC2_s, pvAf_v, pvAf_x, pvPop, pvCs, pvCat, pvPush, aX9_blockingConstraint_119, pvSh_0, pvSh_1, pvSh_2, pvSh_3, pvSh_4, pvSh_5, pvSh_6, pvSh_7, pvSh_8, pvSh_9, pvSh_10, pvSh_11, pvSh_12, pvSh_13, pvSh_14, pvSh_15, pvSh_16, pvSh_17, pvSh_18, pvSh_19, pvSh_20, pvSh_21, pvSh_22, pvSh_23, pvSh_24, pvSh_25, pvSh_26, pvSh_27, pvSh_28, pvSh_29, pvSh_30, pvSh_31, pvSh_32, pvSh_33, pvSh_34, pvSh_35, pvSh_36, pvSh_37, pvSh_38, pvSh_39, pvSh_40, pvSh_41, pvSh_42, pvSh_43, pvSh_44, pvSh_45, pvSh_46, pvSh_47, pvSh_48, pvSh_49, pvSh_50, pvSh_51, pvSh_52, pvSh_53, pvSh_54, pvSh_55, pvSh_56, pvSh_57, pvSh_58, pvSh_59, pvE_iload_n3, pvE_getfield, pvGf_0, pvGf_1, pvGf_2, fX9_42, pvRf_0_0, pvRf_0_1, pvRf_0_2, pvRf_0_3, pvRf_0_4, pvRf_0_5, pvRf_0_6, pvRf_0_7, pvRf_0_8, pvRf_0_9, pvRf_0_10, pvRf_1_0, pvRf_3_0, pvRf_5_0, pvRf_5_1, pvRf_5_2, pvRf_9_0, pvRf_9_1, pvRf_9_2, pvRf_13_0, pvRf_13_1, pvRf_13_2, pvRf_17_0, pvRf_17_2, pvRf_20_0, pvRf_20_1, pvRf_20_2, pvRf_24_0, pvRf_24_1, pvRf_24_2, pvRf_28_0, pvRf_28_1, pvRf_28_2, pvRf_28_3, pvRf_33_0, pvRf_33_1, pvRf_36_0, pvRf_36_1, pvRf_39_0, pvRf_39_1, pvRf_39_2, pvRf_39_5, pvRf_39_6, pvRf_39_9, pvRf_39_13, pvRf_39_15, pvRf_39_16, pvRf_39_17, pvRf_39_19, pvRf_39_20, pvRf_39_22, pvRf_39_23, pvRf_39_24, pvRf_39_25, pvRf_39_29, pvRf_39_30, fX9_172, pvE_invokestatic (h0 := eX9_97), aX9_blockingConstraint_97, aX9_blockingConstraint_104, pvE_astore, pvS1, List.length_cons, List.length_nil, pvClr_i, pvClr_r, pvClr_l, pvClr_d, pvClr_f, pvClr_n, pvE_aload, aX9_blockingConstraint_211, aX9_blockingConstraint_183, pvE_icmp_ne, pvE_iconst, pvE_goto, pvE_invokestatic (h0 := eX9_78), aX9_blockingConstraint_78, aX9_blockingConstraint_186, aX9_blockingConstraint_214, pvE_ireturn, bX9_blockingConstraint_0, uX9_blockingConstraint_0, bX9_blockingConstraint_45, uX9_blockingConstraint_45, bX9_blockingConstraint_46, uX9_blockingConstraint_46, pvRecv_r, pvUp_nl, pvUp_same, pvUp_ap, pvSt_ap, pvX_c, pvX_ms, pvX_mn, pvE_nil, pvEn_i, pvEn_r, pvEn_l, pvEn_0, pvEn_s, pvRt, pvRv, pvTh, pvKc, pvGo, pvTgt, Int.toNat_natCast, false_and, and_false, true_and, and_true, if_true, if_false, reduceIte, reduceCtorEq, forall_const, false_or, or_false, true_or, or_true, ne_eq, not_true_eq_false, not_false_eq_true, implies_true, false_implies, Nat.reduceAdd, Nat.reduceSub, Nat.reduceMul, Nat.reduceEqDiff, Nat.reduceLT, Nat.reduceLeDiff, Int.reduceAdd, Int.reduceSub, Int.reduceMul, Int.reduceNeg, Int.reduceToNat, Int.reduceLE, Int.reduceLT, Int.reduceEq, Int.reduceNe, and_self]
    by_cases hv : trC z s t ∧ 0 ≤ i ∧ i < z.1 20 4
    · have h4 := h2 hv
      have h5 := h3 hv
      obtain ⟨hv, hi⟩ := hv
      have hw2 := hw hv.1
      have hn := hw2.1.1
      have hv2 := hv.2
      have hva := WcF_v hwc (k := i.toNat) (by omega)
      rw [← hwc.2 i.toNat (by omega)] at h5
      rcases (show s = 0 ∨ s = 1 by have := hv.1; omega) with rfl | rfl
      · have e : rwC 0 = 2 := rfl
        rw [e] at h4 h5 hv2 hn hw2
        have hlt2 : t < z.1 2 0 := hv2.2
        have hlt : ((t.toNat : Nat) : Int) < z.1 2 0 := by omega
        rw [aC_c hlt (Or.inl (by decide))] at h4 h5
        have hn2 : z.1 2 0 ≤ 10 := hn.2
        by_cases hx : cT (z.1 2) t.toNat 1 = z.1 22 i.toNat
        · have h6 := h5 hx
          (repeat' first | with_reducible apply And.intro | with_reducible intro _) <;> first | omega | assumption | contradiction
        · have h6 := h4 hx
          (repeat' first | with_reducible apply And.intro | with_reducible intro _) <;> first | omega | assumption | contradiction
      · have e : rwC 1 = 4 := rfl
        rw [e] at h4 h5 hv2 hn hw2
        have hlt2 : t < z.1 4 0 := hv2.2
        have hlt : ((t.toNat : Nat) : Int) < z.1 4 0 := by omega
        rw [aC_c hlt (Or.inl (by decide))] at h4 h5
        have hn2 : z.1 4 0 ≤ 10 := hn.2
        by_cases hx : cT (z.1 4) t.toNat 1 = z.1 22 i.toNat
        · have h6 := h5 hx
          (repeat' first | with_reducible apply And.intro | with_reducible intro _) <;> first | omega | assumption | contradiction
        · have h6 := h4 hx
          (repeat' first | with_reducible apply And.intro | with_reducible intro _) <;> first | omega | assumption | contradiction
    · have h4 := h1 hv
      by_cases hv3 : trC z s t
      · have hi2 : ¬ (0 ≤ i ∧ i < z.1 20 4) := fun q => hv ⟨hv3, q⟩
        (repeat' first | with_reducible apply And.intro | with_reducible intro _) <;> first | omega | assumption | contradiction
      · (repeat' first | with_reducible apply And.intro | with_reducible intro _) <;> first | omega | assumption | contradiction
  · exact h.elim
theorem one_b : ∀ x : Fin 16, pcF ((x : Nat) : Int) = 1 ↔ (((x : Nat) : Int) ≠ 0 ∧ pvAnd ((x : Nat) : Int) (((x : Nat) : Int) - 1) = 0) := by decide +kernel
def C_X9_isDeterministic : pvC
  | [.inr (.inr (.inl id)), .inl s], z, Q => id = 0 ∧ (0 ≤ s ∧ s ≤ 1 → WfC (z.1 (rwC s))) ∧
      (¬ (0 ≤ s ∧ s ≤ 1) → Q (.inr 0) z) ∧
      (0 ≤ s ∧ s ≤ 1 → dtF (autC (z.1 (rwC s))) → Q (.inl (some (vI 1))) z) ∧
      (0 ≤ s ∧ s ≤ 1 → ¬ dtF (autC (z.1 (rwC s))) → Q (.inl (some (vI 0))) z)
  | _, _, _ => False
theorem dt_i {f : Nat → Int} (h : WfC f) : dtF (autC f) ↔ pcF (f 1) = 1 ∧ ∀ t u : Nat, (t : Int) < f 0 → u < t → ¬ clF (autC f) t u := by
  obtain ⟨x, hx⟩ := fin_of (a := f 1) (n := 16) (by have : 0 ≤ f 1 ∧ f 1 ≤ 15 := h.1.2.1; omega)
  have e := one_b x
  rw [← hx] at e
  rw [e]
  exact Iff.rfl
def bX9_isDeterministic : Nat → List (Instr × Nat)
  | 0 => [(.iload_n 1, 1), (.iconst 2, 1), (.invokestatic 97, 3), (.aload_n 0, 1), (.iload_n 1, 1), (.invokevirtual 104, 3), (.astore_n 2, 1), (.aload_n 2, 1), (.invokevirtual 125, 3), (.invokestatic 245, 3), (.iconst 1, 1), (.if_icmp .ne 14, 3), (.aload_n 2, 1), (.invokevirtual 250, 3), (.ifCond .ne 7, 3), (.iconst 1, 1), (.goto 4, 3)]
  | 33 => [(.iconst 0, 1)]
  | 34 => [(.ireturn, 1)]
  | _ => []
def uX9_isDeterministic : Nat → Option (List Bool)
  | _ => none
def aX9_isDeterministic : pvCa
  | 97 => some (2, true, 0, 0, C_X9_requireIndex)
  | 104 => some (2, false, 8, 0, C_X9_automaton)
  | 125 => some (1, false, 0, 0, C_X0_initialStates)
  | 245 => some (1, true, 0, 0, C_J6_bitCount_0f7a4)
  | 250 => some (1, false, 0, 0, C_X0_hasConflict)
  | _ => none
theorem bX9_isDeterministic_0 : bX9_isDeterministic 0 = [(.iload_n 1, 1), (.iconst 2, 1), (.invokestatic 97, 3), (.aload_n 0, 1), (.iload_n 1, 1), (.invokevirtual 104, 3), (.astore_n 2, 1), (.aload_n 2, 1), (.invokevirtual 125, 3), (.invokestatic 245, 3), (.iconst 1, 1), (.if_icmp .ne 14, 3), (.aload_n 2, 1), (.invokevirtual 250, 3), (.ifCond .ne 7, 3), (.iconst 1, 1), (.goto 4, 3)] := rfl
theorem uX9_isDeterministic_0 : uX9_isDeterministic 0 = none := rfl
theorem bX9_isDeterministic_33 : bX9_isDeterministic 33 = [(.iconst 0, 1)] := rfl
theorem uX9_isDeterministic_33 : uX9_isDeterministic 33 = none := rfl
theorem bX9_isDeterministic_34 : bX9_isDeterministic 34 = [(.ireturn, 1)] := rfl
theorem uX9_isDeterministic_34 : uX9_isDeterministic 34 = none := rfl
theorem aX9_isDeterministic_97 : aX9_isDeterministic 97 = some (2, true, 0, 0, C_X9_requireIndex) := rfl
theorem aX9_isDeterministic_104 : aX9_isDeterministic 104 = some (2, false, 8, 0, C_X9_automaton) := rfl
theorem aX9_isDeterministic_125 : aX9_isDeterministic 125 = some (1, false, 0, 0, C_X0_initialStates) := rfl
theorem aX9_isDeterministic_245 : aX9_isDeterministic 245 = some (1, true, 0, 0, C_J6_bitCount_0f7a4) := rfl
theorem aX9_isDeterministic_250 : aX9_isDeterministic 250 = some (1, false, 0, 0, C_X0_hasConflict) := rfl
def mX9_isDeterministic : Room := { frames := 7, cells := 1, slots := 6, locals := 102 }
set_option maxRecDepth 100000 in
set_option maxHeartbeats 4000000 in
theorem okX9_isDeterministic : pvOkM fX9 aX9_isDeterministic kX9 eX9 (some .boolean) bX9_isDeterministic uX9_isDeterministic 3 C_X9_isDeterministic := by
  intro Q SW hc as z h hS hz
  unfold C_X9_isDeterministic at h
  split at h
  · rename_i id s
    obtain ⟨rfl, hw, h1, h2, h3⟩ := h
    refine ⟨Nat.le_of_ble_eq_true rfl, hc 20 _ _ _ fun _ _ => ?_⟩
    clear hc hS hz
    simp only [pvSt1]
    simp only [C_X9_requireIndex, C_X9_automaton, C_X0_initialStates, C_X0_hasConflict, C_J6_bitCount_0f7a4, pvE_iload_n1, pvLI_s, pvLd, pvE_iconst, pvE_invokestatic (h0 := eX9_97), pvC1_s, pvC2_s, pvAf_v, pvAf_x, pvPop, pvCs, pvCat, pvPush, aX9_isDeterministic_97, pvE_aload_n0, pvLA_s, pvE_invokevirtual, aX9_isDeterministic_104, pvSh_0, pvSh_1, pvSh_2, pvSh_3, pvSh_4, pvSh_5, pvSh_6, pvSh_7, pvSh_8, pvSh_9, pvSh_10, pvSh_11, pvSh_12, pvSh_13, pvSh_14, pvSh_15, pvSh_16, pvSh_17, pvSh_18, pvSh_19, pvSh_20, pvSh_21, pvSh_22, pvSh_23, pvSh_24, pvSh_25, pvSh_26, pvSh_27, pvSh_28, pvSh_29, pvSh_30, pvSh_31, pvSh_32, pvSh_33, pvSh_34, pvSh_35, pvSh_36, pvSh_37, pvSh_38, pvSh_39, pvSh_40, pvSh_41, pvSh_42, pvSh_43, pvSh_44, pvSh_45, pvSh_46, pvSh_47, pvSh_48, pvSh_49, pvSh_50, pvSh_51, pvSh_52, pvSh_53, pvSh_54, pvSh_55, pvSh_56, pvSh_57, pvSh_58, pvSh_59, pvE_astore_n2, pvS1, List.length_cons, List.length_nil, pvClr_i, pvClr_r, pvClr_l, pvClr_d, pvClr_f, pvClr_n, pvE_aload_n2, aX9_isDeterministic_125, pvE_invokestatic (h0 := eX9_245), aX9_isDeterministic_245, pvE_icmp_ne, aX9_isDeterministic_250, pvE_if_ne, pvE_goto, pvE_ireturn, bX9_isDeterministic_0, uX9_isDeterministic_0, bX9_isDeterministic_33, uX9_isDeterministic_33, bX9_isDeterministic_34, uX9_isDeterministic_34, pvRecv_r, pvUp_nl, pvUp_same, pvUp_ap, pvSt_ap, pvX_c, pvX_ms, pvX_mn, pvE_nil, pvEn_i, pvEn_r, pvEn_l, pvEn_0, pvEn_s, pvRt, pvRv, pvTh, pvKc, pvGo, pvTgt, Int.toNat_natCast, false_and, and_false, true_and, and_true, if_true, if_false, reduceIte, reduceCtorEq, forall_const, false_or, or_false, true_or, or_true, ne_eq, not_true_eq_false, not_false_eq_true, implies_true, false_implies, Nat.reduceAdd, Nat.reduceSub, Nat.reduceMul, Nat.reduceEqDiff, Nat.reduceLT, Nat.reduceLeDiff, Int.reduceAdd, Int.reduceSub, Int.reduceMul, Int.reduceNeg, Int.reduceToNat, Int.reduceLE, Int.reduceLT, Int.reduceEq, Int.reduceNe, and_self]
    by_cases hs : 0 ≤ s ∧ s ≤ 1
    · have hw2 := hw hs
      have h4 := h2 hs
      have h5 := h3 hs
      rw [dt_i hw2] at h4 h5
      rcases (show s = 0 ∨ s = 1 by omega) with rfl | rfl
      · have e : rwC 0 = 2 := rfl
        rw [e] at h4 h5 hw2
        have hi : 0 ≤ z.1 2 1 ∧ z.1 2 1 ≤ 15 := hw2.1.2.1
        by_cases hp : pcF (z.1 2 1) = 1
        · (repeat' first | with_reducible apply And.intro | with_reducible intro _)
          all_goals first
            | omega
            | assumption
            | contradiction
            | exact h4 ⟨hp, by assumption⟩
            | (refine h5 (fun q => ?_); rename ∃ t u : Nat, _ => hx; obtain ⟨t, u, a, b, c⟩ := hx; exact q.2 t u a b c)
            | skip
        · have h6 := h5 (fun q => hp q.1)
          (repeat' first | with_reducible apply And.intro | with_reducible intro _) <;> first | omega | assumption | contradiction
      · have e : rwC 1 = 4 := rfl
        rw [e] at h4 h5 hw2
        have hi : 0 ≤ z.1 4 1 ∧ z.1 4 1 ≤ 15 := hw2.1.2.1
        by_cases hp : pcF (z.1 4 1) = 1
        · (repeat' first | with_reducible apply And.intro | with_reducible intro _)
          all_goals first
            | omega
            | assumption
            | contradiction
            | exact h4 ⟨hp, by assumption⟩
            | (refine h5 (fun q => ?_); rename ∃ t u : Nat, _ => hx; obtain ⟨t, u, a, b, c⟩ := hx; exact q.2 t u a b c)
            | skip
        · have h6 := h5 (fun q => hp q.1)
          (repeat' first | with_reducible apply And.intro | with_reducible intro _) <;> first | omega | assumption | contradiction
    · have h4 := h1 hs
      (repeat' first | with_reducible apply And.intro | with_reducible intro _) <;> first | omega | assumption
  · exact h.elim
