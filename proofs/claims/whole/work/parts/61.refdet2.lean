/-! the reference: what is asked of the deterministic automaton -/
def deF (z z' : pvM) : Prop := frF [39, 48, 49, 50, 51] [] z z' ∧ ∀ j, j ≠ 8 → j ≠ 18 → j ≠ 21 → z'.1 39 j = z.1 39 j
/-- there is such a set and letter -/
def abF (z : pvM) (s i a : Int) : Prop := (0 ≤ s ∧ s ≤ 1) ∧ (0 ≤ a ∧ a ≤ 2) ∧ 0 ≤ i ∧ i < (dsF (autR (z.1 40) s)).length
noncomputable def bzF (z : pvM) (s i a : Int) : List Int := brF (autR (z.1 40) s) (ndF (dsF (autR (z.1 40) s)) i.toNat) a
def C_X10_areBranches : pvC
  | [.inr (.inr (.inl id)), .inl s, .inl i, .inl a], z, Q => id = 39 ∧ (∀ s : Int, 0 ≤ s ∧ s ≤ 1 → WfA (autR (z.1 40) s)) ∧
      (¬ abF z s i a → ∀ z' : pvM, frF [39, 48, 49] [] z z' → (∀ j, j ≠ 18 → z'.1 39 j = z.1 39 j) → Q (.inl (some (vI 0))) z') ∧
      (abF z s i a → ∀ z' : pvM, frF [39, 48, 49, 50, 51] [] z z' → (∀ j, j ≠ 18 → j ≠ 21 → z'.1 39 j = z.1 39 j) → z'.1 39 21 = (bzF z s i a).length → (∀ b, b < (bzF z s i a).length → z'.1 50 b = ixF (dsF (autR (z.1 40) s)) (ndF (bzF z s i a) b) ∧ z'.1 51 b = cvK (autR (z.1 40) s) (ndF (dsF (autR (z.1 40) s)) i.toNat) a (ndF (bzF z s i a) b) nVal) → Q (.inl (some (vI 1))) z')
  | _, _, _ => False
def bX10_areBranches : Nat → List (Instr × Nat)
  | 0 => [(.iload_n 1, 1), (.invokestatic 80, 3), (.ifCond .eq 10, 3), (.iload_n 3, 1), (.invokestatic 111, 3), (.ifCond .ne 5, 3)]
  | 14 => [(.iconst 0, 1), (.ireturn, 1)]
  | 16 => [(.aload_n 0, 1), (.iload_n 1, 1), (.invokevirtual 206, 3), (.iload_n 2, 1), (.iconst 0, 1), (.aload_n 0, 1), (.getfield 194, 3), (.iconst 1, 1), (.isub, 1), (.invokestatic 76, 3), (.ifCond .ne 5, 3), (.iconst 0, 1), (.ireturn, 1)]
  | 37 => [(.aload_n 0, 1), (.iload_n 1, 1), (.iload_n 2, 1), (.iload_n 3, 1), (.invokevirtual 212, 3), (.iconst 1, 1), (.ireturn, 1)]
  | _ => []
def uX10_areBranches : Nat → Option (List Bool)
  | _ => none
def aX10_areBranches : pvCa
  | 76 => some (3, true, 0, 0, C_X10_in)
  | 80 => some (1, true, 0, 0, C_X10_isSlot)
  | 111 => some (1, true, 0, 0, C_X10_isLetter)
  | 206 => some (2, false, 9, 0, C_X10_determines)
  | 212 => some (4, false, 9, 0, C_X10_branchesOf)
  | _ => none
theorem bX10_areBranches_0 : bX10_areBranches 0 = [(.iload_n 1, 1), (.invokestatic 80, 3), (.ifCond .eq 10, 3), (.iload_n 3, 1), (.invokestatic 111, 3), (.ifCond .ne 5, 3)] := rfl
theorem uX10_areBranches_0 : uX10_areBranches 0 = none := rfl
theorem bX10_areBranches_14 : bX10_areBranches 14 = [(.iconst 0, 1), (.ireturn, 1)] := rfl
theorem uX10_areBranches_14 : uX10_areBranches 14 = none := rfl
theorem bX10_areBranches_16 : bX10_areBranches 16 = [(.aload_n 0, 1), (.iload_n 1, 1), (.invokevirtual 206, 3), (.iload_n 2, 1), (.iconst 0, 1), (.aload_n 0, 1), (.getfield 194, 3), (.iconst 1, 1), (.isub, 1), (.invokestatic 76, 3), (.ifCond .ne 5, 3), (.iconst 0, 1), (.ireturn, 1)] := rfl
theorem uX10_areBranches_16 : uX10_areBranches 16 = none := rfl
theorem bX10_areBranches_37 : bX10_areBranches 37 = [(.aload_n 0, 1), (.iload_n 1, 1), (.iload_n 2, 1), (.iload_n 3, 1), (.invokevirtual 212, 3), (.iconst 1, 1), (.ireturn, 1)] := rfl
theorem uX10_areBranches_37 : uX10_areBranches 37 = none := rfl
theorem aX10_areBranches_76 : aX10_areBranches 76 = some (3, true, 0, 0, C_X10_in) := rfl
theorem aX10_areBranches_80 : aX10_areBranches 80 = some (1, true, 0, 0, C_X10_isSlot) := rfl
theorem aX10_areBranches_111 : aX10_areBranches 111 = some (1, true, 0, 0, C_X10_isLetter) := rfl
theorem aX10_areBranches_206 : aX10_areBranches 206 = some (2, false, 9, 0, C_X10_determines) := rfl
theorem aX10_areBranches_212 : aX10_areBranches 212 = some (4, false, 9, 0, C_X10_branchesOf) := rfl
def mX10_areBranches : Room := { frames := 4, cells := 1, slots := 6, locals := 94 }
set_option maxRecDepth 100000 in
set_option maxHeartbeats 4000000 in
theorem okX10_areBranches : pvOkM fX10 aX10_areBranches kX10 eX10 (some .boolean) bX10_areBranches uX10_areBranches 4 C_X10_areBranches := by
  intro Q SW hc as z h hS hz
  unfold C_X10_areBranches at h
  split at h
  · rename_i id s i a
    obtain ⟨rfl, hws, h1, h2⟩ := h
    refine ⟨Nat.le_of_ble_eq_true rfl, hc 20 _ _ _ fun _ _ => ?_⟩
    clear hc hS hz
    simp only [pvSt1]
    simp only [C_X10_isSlot, C_X10_isLetter, C_X10_determines, C_X10_in, C_X10_branchesOf, pvE_iload_n1, pvLI_s, pvLd, pvE_invokestatic (h0 := eX10_80), pvC1_s, pvC2_s, pvAf_v, pvAf_x, pvPop, pvCs, pvCat, pvPush, aX10_areBranches_80, pvE_if_eq, pvE_iload_n3, pvE_invokestatic (h0 := eX10_111), aX10_areBranches_111, pvE_if_ne, pvE_iconst, pvE_ireturn, pvE_aload_n0, pvLA_s, pvE_invokevirtual, aX10_areBranches_206, pvSh_0, pvSh_1, pvSh_2, pvSh_3, pvSh_4, pvSh_5, pvSh_6, pvSh_7, pvSh_8, pvSh_9, pvSh_10, pvSh_11, pvSh_12, pvSh_13, pvSh_14, pvSh_15, pvSh_16, pvSh_17, pvSh_18, pvSh_19, pvSh_20, pvSh_21, pvSh_22, pvSh_23, pvSh_24, pvSh_25, pvSh_26, pvSh_27, pvSh_28, pvSh_29, pvSh_30, pvSh_31, pvSh_32, pvSh_33, pvSh_34, pvSh_35, pvSh_36, pvSh_37, pvSh_38, pvSh_39, pvSh_40, pvSh_41, pvSh_42, pvSh_43, pvSh_44, pvSh_45, pvSh_46, pvSh_47, pvSh_48, pvSh_49, pvSh_50, pvSh_51, pvSh_52, pvSh_53, pvSh_54, pvSh_55, pvSh_56, pvSh_57, pvSh_58, pvSh_59, pvE_iload_n2, pvE_getfield, pvGf_0, pvGf_1, pvGf_2, fX10_194, pvRf_0_0, pvRf_0_1, pvRf_0_2, pvRf_0_3, pvRf_0_4, pvRf_0_5, pvRf_0_6, pvRf_0_7, pvRf_0_8, pvRf_0_9, pvRf_0_10, pvRf_1_0, pvRf_3_0, pvRf_5_0, pvRf_5_1, pvRf_5_2, pvRf_9_0, pvRf_9_1, pvRf_9_2, pvRf_13_0, pvRf_13_1, pvRf_13_2, pvRf_17_0, pvRf_17_2, pvRf_20_0, pvRf_20_1, pvRf_20_2, pvRf_24_0, pvRf_24_1, pvRf_24_2, pvRf_28_0, pvRf_28_1, pvRf_28_2, pvRf_28_3, pvRf_33_0, pvRf_33_1, pvRf_36_0, pvRf_36_1, pvRf_39_0, pvRf_39_1, pvRf_39_2, pvRf_39_5, pvRf_39_6, pvRf_39_9, pvRf_39_13, pvRf_39_15, pvRf_39_16, pvRf_39_17, pvRf_39_19, pvRf_39_20, pvRf_39_22, pvRf_39_23, pvRf_39_24, pvRf_39_25, pvRf_39_29, pvRf_39_30, pvE_isub, pvE_invokestatic (h0 := eX10_76), aX10_areBranches_76, aX10_areBranches_212, bX10_areBranches_0, uX10_areBranches_0, bX10_areBranches_14, uX10_areBranches_14, bX10_areBranches_16, uX10_areBranches_16, bX10_areBranches_37, uX10_areBranches_37, pvRecv_r, pvUp_nl, pvUp_same, pvUp_ap, pvSt_ap, pvX_c, pvX_ms, pvX_mn, pvE_nil, pvEn_i, pvEn_r, pvEn_l, pvEn_0, pvEn_s, pvRt, pvRv, pvTh, pvKc, pvGo, pvTgt, Int.toNat_natCast, false_and, and_false, true_and, and_true, if_true, if_false, reduceIte, reduceCtorEq, forall_const, false_or, or_false, true_or, or_true, ne_eq, not_true_eq_false, not_false_eq_true, implies_true, false_implies, Nat.reduceAdd, Nat.reduceSub, Nat.reduceMul, Nat.reduceEqDiff, Nat.reduceLT, Nat.reduceLeDiff, Int.reduceAdd, Int.reduceSub, Int.reduceMul, Int.reduceNeg, Int.reduceToNat, Int.reduceLE, Int.reduceLT, Int.reduceEq, Int.reduceNe, and_self]
    by_cases hs : (0 ≤ s ∧ s ≤ 1) ∧ 0 ≤ a ∧ a ≤ 2
    · have hw := hws s hs.1
      have h16 := okL_len (dsF_ok hw)
      have hl0 := (dsF_0 (autR (z.1 40) s)).1
      (repeat' first | with_reducible apply And.intro | with_reducible intro _)
      all_goals first
        | omega
        | exact hws
        | exact hws _ (by assumption)
        | skip
      all_goals
        rename frF [39, 48, 49] [] _ _ => f1
        rename rsL _ _ => r1
        rename ∀ (j : Nat), ¬j = 18 → _ => k1
        have g40 := f1.1 40 (by decide)
        have e18 := r1.1
        try rw [e18]
        by_cases hi : 0 ≤ i ∧ i < (dsF (autR (z.1 40) s)).length
        · have h3 := h2 ⟨hs.1, hs.2, hi⟩
          (repeat' first | with_reducible apply And.intro | with_reducible intro _)
          all_goals first
            | omega
            | skip
          all_goals
            rename ldP _ _ _ => l1
            refine ⟨autR (z.1 40) s, ⟨by rw [g40], hs.1, hw, r1, l1, hi, hs.2⟩, fun z2 f2 k2 e21 o2 => ?_⟩
            have := h3 z2 (frF_t (frF_t frF_0 f1 (by decide) (by decide)) f2 (by decide) (by decide)) (fun j h1 h2 => by rw [k2 j h2, k1 j h1]) e21 o2
            first
              | exact this
              | exact ⟨by decide, this⟩
              | exact ⟨by omega, this⟩
        · have h3 := h1 (fun q => hi q.2.2) _ f1 k1
          (repeat' first | with_reducible apply And.intro | with_reducible intro _)
          all_goals first
            | omega
            | assumption
    · have h3 := h1 (fun q => hs ⟨q.1, q.2.1⟩) z frF_0 (fun _ _ => rfl)
      (repeat' first | with_reducible apply And.intro | with_reducible intro _)
      all_goals first
        | omega
        | assumption
  · exact h.elim
theorem deF_of {z z1 : pvM} {v : Int} (h : frF [39, 48, 49, 50, 51] [] z z1) (hk : ∀ j, j ≠ 18 → j ≠ 21 → z1.1 39 j = z.1 39 j) : deF z (pvUp z1.1 39 8 v, z1.2) ∧ (pvUp z1.1 39 8 v, z1.2).1 39 8 = v :=
  ⟨⟨frF_u h (by decide), fun j h1 h2 h3 => by show pvUp z1.1 39 8 v 39 j = _; rw [pvUp_ap, if_neg (by simp [h1])]; exact hk j h2 h3⟩, by show pvUp z1.1 39 8 v 39 8 = v; simp [pvUp_ap]⟩
theorem deF_of8 {z z1 : pvM} {v : Int} (h : frF [39, 48, 49] [] (pvUp z.1 39 8 v, z.2) z1) (hk : ∀ j, j ≠ 18 → z1.1 39 j = if j = 8 then v else z.1 39 j) : deF z z1 ∧ z1.1 39 8 = v :=
  ⟨⟨frF_t (frF_u frF_0 (by decide)) h (by decide) (by decide), fun j h1 h2 _ => by rw [hk j h2, if_neg h1]⟩, by rw [hk 8 (by decide), if_pos rfl]⟩
theorem deF_up {z z1 : pvM} {v : Int} (h : deF z z1) : deF z (pvUp z1.1 39 8 v, z1.2) ∧ (pvUp z1.1 39 8 v, z1.2).1 39 8 = v :=
  ⟨⟨frF_u h.1 (by decide), fun j h1 h2 h3 => by show pvUp z1.1 39 8 v 39 j = _; rw [pvUp_ap, if_neg (by simp [h1])]; exact h.2 j h1 h2 h3⟩, by show pvUp z1.1 39 8 v 39 8 = v; simp [pvUp_ap]⟩
def C_X10_deterministicStates : pvC
  | [.inr (.inr (.inl id)), .inl s], z, Q => id = 39 ∧ (∀ s : Int, 0 ≤ s ∧ s ≤ 1 → WfA (autR (z.1 40) s)) ∧
      (¬ (0 ≤ s ∧ s ≤ 1) → Q (.inl (some (vI 0))) (pvUp z.1 39 8 1, z.2)) ∧
      (0 ≤ s ∧ s ≤ 1 → ∀ z' : pvM, deF z z' → z'.1 39 8 = 0 → Q (.inl (some (vI ((dsF (autR (z.1 40) s)).length : Int)))) z')
  | _, _, _ => False
def bX10_deterministicStates : Nat → List (Instr × Nat)
  | 0 => [(.aload_n 0, 1), (.iconst 0, 1), (.putfield 73, 3), (.iload_n 1, 1), (.invokestatic 80, 3), (.ifCond .ne 9, 3), (.aload_n 0, 1), (.iconst 1, 1), (.invokevirtual 87, 3), (.ireturn, 1)]
  | 18 => [(.aload_n 0, 1), (.iload_n 1, 1), (.invokevirtual 206, 3), (.aload_n 0, 1), (.getfield 194, 3), (.ireturn, 1)]
  | _ => []
def uX10_deterministicStates : Nat → Option (List Bool)
  | _ => none
def aX10_deterministicStates : pvCa
  | 80 => some (1, true, 0, 0, C_X10_isSlot)
  | 87 => some (2, false, 9, 0, C_X10_fails)
  | 206 => some (2, false, 9, 0, C_X10_determines)
  | _ => none
theorem bX10_deterministicStates_0 : bX10_deterministicStates 0 = [(.aload_n 0, 1), (.iconst 0, 1), (.putfield 73, 3), (.iload_n 1, 1), (.invokestatic 80, 3), (.ifCond .ne 9, 3), (.aload_n 0, 1), (.iconst 1, 1), (.invokevirtual 87, 3), (.ireturn, 1)] := rfl
theorem uX10_deterministicStates_0 : uX10_deterministicStates 0 = none := rfl
theorem bX10_deterministicStates_18 : bX10_deterministicStates 18 = [(.aload_n 0, 1), (.iload_n 1, 1), (.invokevirtual 206, 3), (.aload_n 0, 1), (.getfield 194, 3), (.ireturn, 1)] := rfl
theorem uX10_deterministicStates_18 : uX10_deterministicStates 18 = none := rfl
theorem aX10_deterministicStates_80 : aX10_deterministicStates 80 = some (1, true, 0, 0, C_X10_isSlot) := rfl
theorem aX10_deterministicStates_87 : aX10_deterministicStates 87 = some (2, false, 9, 0, C_X10_fails) := rfl
theorem aX10_deterministicStates_206 : aX10_deterministicStates 206 = some (2, false, 9, 0, C_X10_determines) := rfl
def mX10_deterministicStates : Room := { frames := 4, cells := 1, slots := 6, locals := 94 }
set_option maxRecDepth 100000 in
set_option maxHeartbeats 4000000 in
theorem okX10_deterministicStates : pvOkM fX10 aX10_deterministicStates kX10 eX10 (some .int) bX10_deterministicStates uX10_deterministicStates 2 C_X10_deterministicStates := by
  intro Q SW hc as z h hS hz
  unfold C_X10_deterministicStates at h
  split at h
  · rename_i id s
    obtain ⟨rfl, hws, h1, h2⟩ := h
    refine ⟨Nat.le_of_ble_eq_true rfl, hc 20 _ _ _ fun _ _ => ?_⟩
    clear hc hS hz
    simp only [pvSt1]
    simp only [C_X10_isSlot, C_X10_fails, C_X10_determines, pvE_aload_n0, pvLA_s, pvLd, pvE_iconst, pvE_putfield, pvPf_0, pvPf_1, fX10_73, pvSh_0, pvSh_1, pvSh_2, pvSh_3, pvSh_4, pvSh_5, pvSh_6, pvSh_7, pvSh_8, pvSh_9, pvSh_10, pvSh_11, pvSh_12, pvSh_13, pvSh_14, pvSh_15, pvSh_16, pvSh_17, pvSh_18, pvSh_19, pvSh_20, pvSh_21, pvSh_22, pvSh_23, pvSh_24, pvSh_25, pvSh_26, pvSh_27, pvSh_28, pvSh_29, pvSh_30, pvSh_31, pvSh_32, pvSh_33, pvSh_34, pvSh_35, pvSh_36, pvSh_37, pvSh_38, pvSh_39, pvSh_40, pvSh_41, pvSh_42, pvSh_43, pvSh_44, pvSh_45, pvSh_46, pvSh_47, pvSh_48, pvSh_49, pvSh_50, pvSh_51, pvSh_52, pvSh_53, pvSh_54, pvSh_55, pvSh_56, pvSh_57, pvSh_58, pvSh_59, pvE_iload_n1, pvLI_s, pvE_invokestatic (h0 := eX10_80), pvC1_s, pvC2_s, pvAf_v, pvAf_x, pvPop, pvCs, pvCat, pvPush, aX10_deterministicStates_80, pvE_if_ne, pvE_invokevirtual, aX10_deterministicStates_87, pvE_ireturn, aX10_deterministicStates_206, pvE_getfield, pvGf_0, pvGf_1, pvGf_2, fX10_194, pvRf_0_0, pvRf_0_1, pvRf_0_2, pvRf_0_3, pvRf_0_4, pvRf_0_5, pvRf_0_6, pvRf_0_7, pvRf_0_8, pvRf_0_9, pvRf_0_10, pvRf_1_0, pvRf_3_0, pvRf_5_0, pvRf_5_1, pvRf_5_2, pvRf_9_0, pvRf_9_1, pvRf_9_2, pvRf_13_0, pvRf_13_1, pvRf_13_2, pvRf_17_0, pvRf_17_2, pvRf_20_0, pvRf_20_1, pvRf_20_2, pvRf_24_0, pvRf_24_1, pvRf_24_2, pvRf_28_0, pvRf_28_1, pvRf_28_2, pvRf_28_3, pvRf_33_0, pvRf_33_1, pvRf_36_0, pvRf_36_1, pvRf_39_0, pvRf_39_1, pvRf_39_2, pvRf_39_5, pvRf_39_6, pvRf_39_9, pvRf_39_13, pvRf_39_15, pvRf_39_16, pvRf_39_17, pvRf_39_19, pvRf_39_20, pvRf_39_22, pvRf_39_23, pvRf_39_24, pvRf_39_25, pvRf_39_29, pvRf_39_30, bX10_deterministicStates_0, uX10_deterministicStates_0, bX10_deterministicStates_18, uX10_deterministicStates_18, pvRecv_r, pvUp_nl, pvUp_same, pvUp_ap, pvSt_ap, pvX_c, pvX_ms, pvX_mn, pvE_nil, pvEn_i, pvEn_r, pvEn_l, pvEn_0, pvEn_s, pvRt, pvRv, pvTh, pvKc, pvGo, pvTgt, Int.toNat_natCast, false_and, and_false, true_and, and_true, if_true, if_false, reduceIte, reduceCtorEq, forall_const, false_or, or_false, true_or, or_true, ne_eq, not_true_eq_false, not_false_eq_true, implies_true, false_implies, Nat.reduceAdd, Nat.reduceSub, Nat.reduceMul, Nat.reduceEqDiff, Nat.reduceLT, Nat.reduceLeDiff, Int.reduceAdd, Int.reduceSub, Int.reduceMul, Int.reduceNeg, Int.reduceToNat, Int.reduceLE, Int.reduceLT, Int.reduceEq, Int.reduceNe, and_self]
    by_cases hs : 0 ≤ s ∧ s ≤ 1
    · (repeat' first | with_reducible apply And.intro | with_reducible intro _)
      all_goals first
        | omega
        | exact hws
        | exact hws _ (by assumption)
        | skip
      all_goals
        rename frF [39, 48, 49] [] _ _ => f1
        rename rsL _ _ => r1
        rename ∀ (j : Nat), ¬j = 18 → _ => k1
        obtain ⟨d1, d2⟩ := deF_of8 f1 k1
        rw [r1.1]
        exact h2 hs _ d1 d2
    · have h3 := h1 hs
      (repeat' first | with_reducible apply And.intro | with_reducible intro _)
      all_goals first
        | omega
        | assumption
  · exact h.elim
def C_X10_deterministicSet : pvC
  | [.inr (.inr (.inl id)), .inl s, .inl i], z, Q => id = 39 ∧ (∀ s : Int, 0 ≤ s ∧ s ≤ 1 → WfA (autR (z.1 40) s)) ∧
      (¬ ((0 ≤ s ∧ s ≤ 1) ∧ 0 ≤ i ∧ i < (dsF (autR (z.1 40) s)).length) → ∀ z' : pvM, deF z z' → z'.1 39 8 = 1 → Q (.inl (some (vI 0))) z') ∧
      ((0 ≤ s ∧ s ≤ 1) ∧ (0 ≤ i ∧ i < (dsF (autR (z.1 40) s)).length) → ∀ z' : pvM, deF z z' → z'.1 39 8 = 0 → Q (.inl (some (vI (ndF (dsF (autR (z.1 40) s)) i.toNat)))) z')
  | _, _, _ => False
def bX10_deterministicSet : Nat → List (Instr × Nat)
  | 0 => [(.aload_n 0, 1), (.iconst 0, 1), (.putfield 73, 3), (.iload_n 1, 1), (.invokestatic 80, 3), (.ifCond .ne 9, 3), (.aload_n 0, 1), (.iconst 1, 1), (.invokevirtual 87, 3), (.ireturn, 1)]
  | 18 => [(.aload_n 0, 1), (.iload_n 1, 1), (.invokevirtual 206, 3), (.iload_n 2, 1), (.iconst 0, 1), (.aload_n 0, 1), (.getfield 194, 3), (.iconst 1, 1), (.isub, 1), (.invokestatic 76, 3), (.ifCond .eq 12, 3), (.aload_n 0, 1), (.getfield 42, 3), (.iload_n 2, 1), (.iaload, 1), (.goto 8, 3)]
  | 46 => [(.aload_n 0, 1), (.iconst 1, 1), (.invokevirtual 87, 3)]
  | 51 => [(.ireturn, 1)]
  | _ => []
def uX10_deterministicSet : Nat → Option (List Bool)
  | _ => none
def aX10_deterministicSet : pvCa
  | 76 => some (3, true, 0, 0, C_X10_in)
  | 80 => some (1, true, 0, 0, C_X10_isSlot)
  | 87 => some (2, false, 9, 0, C_X10_fails)
  | 206 => some (2, false, 9, 0, C_X10_determines)
  | _ => none
theorem bX10_deterministicSet_0 : bX10_deterministicSet 0 = [(.aload_n 0, 1), (.iconst 0, 1), (.putfield 73, 3), (.iload_n 1, 1), (.invokestatic 80, 3), (.ifCond .ne 9, 3), (.aload_n 0, 1), (.iconst 1, 1), (.invokevirtual 87, 3), (.ireturn, 1)] := rfl
theorem uX10_deterministicSet_0 : uX10_deterministicSet 0 = none := rfl
theorem bX10_deterministicSet_18 : bX10_deterministicSet 18 = [(.aload_n 0, 1), (.iload_n 1, 1), (.invokevirtual 206, 3), (.iload_n 2, 1), (.iconst 0, 1), (.aload_n 0, 1), (.getfield 194, 3), (.iconst 1, 1), (.isub, 1), (.invokestatic 76, 3), (.ifCond .eq 12, 3), (.aload_n 0, 1), (.getfield 42, 3), (.iload_n 2, 1), (.iaload, 1), (.goto 8, 3)] := rfl
theorem uX10_deterministicSet_18 : uX10_deterministicSet 18 = none := rfl
theorem bX10_deterministicSet_46 : bX10_deterministicSet 46 = [(.aload_n 0, 1), (.iconst 1, 1), (.invokevirtual 87, 3)] := rfl
theorem uX10_deterministicSet_46 : uX10_deterministicSet 46 = none := rfl
theorem bX10_deterministicSet_51 : bX10_deterministicSet 51 = [(.ireturn, 1)] := rfl
theorem uX10_deterministicSet_51 : uX10_deterministicSet 51 = none := rfl
theorem aX10_deterministicSet_76 : aX10_deterministicSet 76 = some (3, true, 0, 0, C_X10_in) := rfl
theorem aX10_deterministicSet_80 : aX10_deterministicSet 80 = some (1, true, 0, 0, C_X10_isSlot) := rfl
theorem aX10_deterministicSet_87 : aX10_deterministicSet 87 = some (2, false, 9, 0, C_X10_fails) := rfl
theorem aX10_deterministicSet_206 : aX10_deterministicSet 206 = some (2, false, 9, 0, C_X10_determines) := rfl
def mX10_deterministicSet : Room := { frames := 4, cells := 1, slots := 6, locals := 94 }
set_option maxRecDepth 100000 in
set_option maxHeartbeats 4000000 in
theorem okX10_deterministicSet : pvOkM fX10 aX10_deterministicSet kX10 eX10 (some .int) bX10_deterministicSet uX10_deterministicSet 3 C_X10_deterministicSet := by
  intro Q SW hc as z h hS hz
  unfold C_X10_deterministicSet at h
  split at h
  · rename_i id s i
    obtain ⟨rfl, hws, h1, h2⟩ := h
    refine ⟨Nat.le_of_ble_eq_true rfl, hc 20 _ _ _ fun _ _ => ?_⟩
    clear hc hS hz
    simp only [pvSt1]
    simp only [C_X10_isSlot, C_X10_fails, C_X10_determines, C_X10_in, pvE_aload_n0, pvLA_s, pvLd, pvE_iconst, pvE_putfield, pvPf_0, pvPf_1, fX10_73, pvSh_0, pvSh_1, pvSh_2, pvSh_3, pvSh_4, pvSh_5, pvSh_6, pvSh_7, pvSh_8, pvSh_9, pvSh_10, pvSh_11, pvSh_12, pvSh_13, pvSh_14, pvSh_15, pvSh_16, pvSh_17, pvSh_18, pvSh_19, pvSh_20, pvSh_21, pvSh_22, pvSh_23, pvSh_24, pvSh_25, pvSh_26, pvSh_27, pvSh_28, pvSh_29, pvSh_30, pvSh_31, pvSh_32, pvSh_33, pvSh_34, pvSh_35, pvSh_36, pvSh_37, pvSh_38, pvSh_39, pvSh_40, pvSh_41, pvSh_42, pvSh_43, pvSh_44, pvSh_45, pvSh_46, pvSh_47, pvSh_48, pvSh_49, pvSh_50, pvSh_51, pvSh_52, pvSh_53, pvSh_54, pvSh_55, pvSh_56, pvSh_57, pvSh_58, pvSh_59, pvE_iload_n1, pvLI_s, pvE_invokestatic (h0 := eX10_80), pvC1_s, pvC2_s, pvAf_v, pvAf_x, pvPop, pvCs, pvCat, pvPush, aX10_deterministicSet_80, pvE_if_ne, pvE_invokevirtual, aX10_deterministicSet_87, pvE_ireturn, aX10_deterministicSet_206, pvE_iload_n2, pvE_getfield, pvGf_0, pvGf_1, pvGf_2, fX10_194, pvRf_0_0, pvRf_0_1, pvRf_0_2, pvRf_0_3, pvRf_0_4, pvRf_0_5, pvRf_0_6, pvRf_0_7, pvRf_0_8, pvRf_0_9, pvRf_0_10, pvRf_1_0, pvRf_3_0, pvRf_5_0, pvRf_5_1, pvRf_5_2, pvRf_9_0, pvRf_9_1, pvRf_9_2, pvRf_13_0, pvRf_13_1, pvRf_13_2, pvRf_17_0, pvRf_17_2, pvRf_20_0, pvRf_20_1, pvRf_20_2, pvRf_24_0, pvRf_24_1, pvRf_24_2, pvRf_28_0, pvRf_28_1, pvRf_28_2, pvRf_28_3, pvRf_33_0, pvRf_33_1, pvRf_36_0, pvRf_36_1, pvRf_39_0, pvRf_39_1, pvRf_39_2, pvRf_39_5, pvRf_39_6, pvRf_39_9, pvRf_39_13, pvRf_39_15, pvRf_39_16, pvRf_39_17, pvRf_39_19, pvRf_39_20, pvRf_39_22, pvRf_39_23, pvRf_39_24, pvRf_39_25, pvRf_39_29, pvRf_39_30, pvE_isub, pvE_invokestatic (h0 := eX10_76), aX10_deterministicSet_76, pvE_if_eq, fX10_42, pvE_iaload, pvAI, pvE_goto, bX10_deterministicSet_0, uX10_deterministicSet_0, bX10_deterministicSet_18, uX10_deterministicSet_18, bX10_deterministicSet_46, uX10_deterministicSet_46, bX10_deterministicSet_51, uX10_deterministicSet_51, pvRecv_r, pvUp_nl, pvUp_same, pvUp_ap, pvSt_ap, pvX_c, pvX_ms, pvX_mn, pvE_nil, pvEn_i, pvEn_r, pvEn_l, pvEn_0, pvEn_s, pvRt, pvRv, pvTh, pvKc, pvGo, pvTgt, Int.toNat_natCast, false_and, and_false, true_and, and_true, if_true, if_false, reduceIte, reduceCtorEq, forall_const, false_or, or_false, true_or, or_true, ne_eq, not_true_eq_false, not_false_eq_true, implies_true, false_implies, Nat.reduceAdd, Nat.reduceSub, Nat.reduceMul, Nat.reduceEqDiff, Nat.reduceLT, Nat.reduceLeDiff, Int.reduceAdd, Int.reduceSub, Int.reduceMul, Int.reduceNeg, Int.reduceToNat, Int.reduceLE, Int.reduceLT, Int.reduceEq, Int.reduceNe, and_self]
    by_cases hs : 0 ≤ s ∧ s ≤ 1
    · have hl0 := (dsF_0 (autR (z.1 40) s)).1
      have h16 := okL_len (dsF_ok (hws s hs))
      (repeat' first | with_reducible apply And.intro | with_reducible intro _)
      all_goals first
        | omega
        | exact hws
        | exact hws _ (by assumption)
        | skip
      all_goals
        rename frF [39, 48, 49] [] _ _ => f1
        rename rsL _ _ => r1
        rename ∀ (j : Nat), ¬j = 18 → _ => k1
        obtain ⟨d1, d2⟩ := deF_of8 f1 k1
        have e18 := r1.1
        try rw [e18]
        by_cases hi : 0 ≤ i ∧ i < (dsF (autR (z.1 40) s)).length
        · have h3 := h2 ⟨hs, hi⟩ _ d1 d2
          have h4 := fun f => liF_nd (f := f) (c := (dsF (autR (z.1 40) s)).length) (i := i.toNat) (by omega)
          rw [← r1.2, h4] at h3
          (repeat' first | with_reducible apply And.intro | with_reducible intro _)
          all_goals first
            | omega
            | exact h3
        · obtain ⟨d3, d4⟩ := deF_up (v := 1) d1
          have h3 := h1 (fun q => hi q.2) _ d3 d4
          (repeat' first | with_reducible apply And.intro | with_reducible intro _)
          all_goals first
            | omega
            | exact h3
    · have h3 := h1 (fun q => hs q.1) (pvUp z.1 39 8 1, z.2) (deF_of frF_0 (fun _ _ _ => rfl)).1 (deF_of (z := z) frF_0 (fun _ _ _ => rfl)).2
      (repeat' first | with_reducible apply And.intro | with_reducible intro _)
      all_goals first
        | omega
        | assumption
  · exact h.elim
def C_X10_branches : pvC
  | [.inr (.inr (.inl id)), .inl s, .inl i, .inl a], z, Q => id = 39 ∧ (∀ s : Int, 0 ≤ s ∧ s ≤ 1 → WfA (autR (z.1 40) s)) ∧
      (¬ abF z s i a → ∀ z' : pvM, deF z z' → z'.1 39 8 = 1 → Q (.inl (some (vI 0))) z') ∧
      (abF z s i a → ∀ z' : pvM, deF z z' → z'.1 39 8 = 0 → Q (.inl (some (vI ((bzF z s i a).length : Int)))) z')
  | _, _, _ => False
def bX10_branches : Nat → List (Instr × Nat)
  | 0 => [(.aload_n 0, 1), (.aload_n 0, 1), (.iload_n 1, 1), (.iload_n 2, 1), (.iload_n 3, 1), (.invokevirtual 216, 3), (.ifCond .eq 7, 3), (.iconst 0, 1), (.goto 4, 3)]
  | 15 => [(.iconst 1, 1)]
  | 16 => [(.putfield 73, 3), (.aload_n 0, 1), (.getfield 73, 3), (.ifCond .ne 10, 3), (.aload_n 0, 1), (.getfield 209, 3), (.goto 4, 3)]
  | 33 => [(.iconst 0, 1)]
  | 34 => [(.ireturn, 1)]
  | _ => []
def uX10_branches : Nat → Option (List Bool)
  | _ => none
def aX10_branches : pvCa
  | 216 => some (4, false, 9, 0, C_X10_areBranches)
  | _ => none
theorem bX10_branches_0 : bX10_branches 0 = [(.aload_n 0, 1), (.aload_n 0, 1), (.iload_n 1, 1), (.iload_n 2, 1), (.iload_n 3, 1), (.invokevirtual 216, 3), (.ifCond .eq 7, 3), (.iconst 0, 1), (.goto 4, 3)] := rfl
theorem uX10_branches_0 : uX10_branches 0 = none := rfl
theorem bX10_branches_15 : bX10_branches 15 = [(.iconst 1, 1)] := rfl
theorem uX10_branches_15 : uX10_branches 15 = none := rfl
theorem bX10_branches_16 : bX10_branches 16 = [(.putfield 73, 3), (.aload_n 0, 1), (.getfield 73, 3), (.ifCond .ne 10, 3), (.aload_n 0, 1), (.getfield 209, 3), (.goto 4, 3)] := rfl
theorem uX10_branches_16 : uX10_branches 16 = none := rfl
theorem bX10_branches_33 : bX10_branches 33 = [(.iconst 0, 1)] := rfl
theorem uX10_branches_33 : uX10_branches 33 = none := rfl
theorem bX10_branches_34 : bX10_branches 34 = [(.ireturn, 1)] := rfl
theorem uX10_branches_34 : uX10_branches 34 = none := rfl
theorem aX10_branches_216 : aX10_branches 216 = some (4, false, 9, 0, C_X10_areBranches) := rfl
def mX10_branches : Room := { frames := 5, cells := 1, slots := 6, locals := 117 }
set_option maxRecDepth 100000 in
set_option maxHeartbeats 4000000 in
theorem okX10_branches : pvOkM fX10 aX10_branches kX10 eX10 (some .int) bX10_branches uX10_branches 4 C_X10_branches := by
  intro Q SW hc as z h hS hz
  unfold C_X10_branches at h
  split at h
  · rename_i id s i a
    obtain ⟨rfl, hws, h1, h2⟩ := h
    refine ⟨Nat.le_of_ble_eq_true rfl, hc 20 _ _ _ fun _ _ => ?_⟩
    clear hc hS hz
    simp only [pvSt1]
    simp only [C_X10_areBranches, pvE_aload_n0, pvLA_s, pvLd, pvE_iload_n1, pvLI_s, pvE_iload_n2, pvE_iload_n3, pvE_invokevirtual, pvC1_s, pvC2_s, pvAf_v, pvAf_x, pvPop, pvCs, pvCat, pvPush, aX10_branches_216, pvSh_0, pvSh_1, pvSh_2, pvSh_3, pvSh_4, pvSh_5, pvSh_6, pvSh_7, pvSh_8, pvSh_9, pvSh_10, pvSh_11, pvSh_12, pvSh_13, pvSh_14, pvSh_15, pvSh_16, pvSh_17, pvSh_18, pvSh_19, pvSh_20, pvSh_21, pvSh_22, pvSh_23, pvSh_24, pvSh_25, pvSh_26, pvSh_27, pvSh_28, pvSh_29, pvSh_30, pvSh_31, pvSh_32, pvSh_33, pvSh_34, pvSh_35, pvSh_36, pvSh_37, pvSh_38, pvSh_39, pvSh_40, pvSh_41, pvSh_42, pvSh_43, pvSh_44, pvSh_45, pvSh_46, pvSh_47, pvSh_48, pvSh_49, pvSh_50, pvSh_51, pvSh_52, pvSh_53, pvSh_54, pvSh_55, pvSh_56, pvSh_57, pvSh_58, pvSh_59, pvE_if_eq, pvE_iconst, pvE_goto, pvE_putfield, pvPf_0, pvPf_1, fX10_73, pvE_getfield, pvGf_0, pvGf_1, pvGf_2, pvRf_0_0, pvRf_0_1, pvRf_0_2, pvRf_0_3, pvRf_0_4, pvRf_0_5, pvRf_0_6, pvRf_0_7, pvRf_0_8, pvRf_0_9, pvRf_0_10, pvRf_1_0, pvRf_3_0, pvRf_5_0, pvRf_5_1, pvRf_5_2, pvRf_9_0, pvRf_9_1, pvRf_9_2, pvRf_13_0, pvRf_13_1, pvRf_13_2, pvRf_17_0, pvRf_17_2, pvRf_20_0, pvRf_20_1, pvRf_20_2, pvRf_24_0, pvRf_24_1, pvRf_24_2, pvRf_28_0, pvRf_28_1, pvRf_28_2, pvRf_28_3, pvRf_33_0, pvRf_33_1, pvRf_36_0, pvRf_36_1, pvRf_39_0, pvRf_39_1, pvRf_39_2, pvRf_39_5, pvRf_39_6, pvRf_39_9, pvRf_39_13, pvRf_39_15, pvRf_39_16, pvRf_39_17, pvRf_39_19, pvRf_39_20, pvRf_39_22, pvRf_39_23, pvRf_39_24, pvRf_39_25, pvRf_39_29, pvRf_39_30, pvE_if_ne, fX10_209, pvE_ireturn, bX10_branches_0, uX10_branches_0, bX10_branches_15, uX10_branches_15, bX10_branches_16, uX10_branches_16, bX10_branches_33, uX10_branches_33, bX10_branches_34, uX10_branches_34, pvRecv_r, pvUp_nl, pvUp_same, pvUp_ap, pvSt_ap, pvX_c, pvX_ms, pvX_mn, pvE_nil, pvEn_i, pvEn_r, pvEn_l, pvEn_0, pvEn_s, pvRt, pvRv, pvTh, pvKc, pvGo, pvTgt, Int.toNat_natCast, false_and, and_false, true_and, and_true, if_true, if_false, reduceIte, reduceCtorEq, forall_const, false_or, or_false, true_or, or_true, ne_eq, not_true_eq_false, not_false_eq_true, implies_true, false_implies, Nat.reduceAdd, Nat.reduceSub, Nat.reduceMul, Nat.reduceEqDiff, Nat.reduceLT, Nat.reduceLeDiff, Int.reduceAdd, Int.reduceSub, Int.reduceMul, Int.reduceNeg, Int.reduceToNat, Int.reduceLE, Int.reduceLT, Int.reduceEq, Int.reduceNe, and_self]
    (repeat' first | with_reducible apply And.intro | with_reducible intro _)
    all_goals first
      | omega
      | exact hws
      | exact hws _ (by assumption)
      | contradiction
      | skip
    all_goals first
      | (rename ¬ abF _ _ _ _ => hv
         rename frF [39, 48, 49] [] _ _ => f1
         rename ∀ (j : Nat), ¬j = 18 → _ = _ => k1
         obtain ⟨d1, d2⟩ := deF_of (v := 1) (frF_t frF_0 f1 (by decide) (by decide)) (fun j h1 _ => k1 j h1)
         exact h1 hv _ d1 d2)
      | (rename abF _ _ _ _ => hv
         rename frF [39, 48, 49, 50, 51] [] _ _ => f1
         rename ∀ (j : Nat), ¬j = 18 → ¬j = 21 → _ => k1
         rename _ = ((_ : Nat) : Int) => e21
         obtain ⟨d1, d2⟩ := deF_of (v := 0) f1 k1
         have := h2 hv _ d1 d2
         rw [← e21] at this
         exact this)
  · exact h.elim
def C_X10_branchTarget : pvC
  | [.inr (.inr (.inl id)), .inl s, .inl i, .inl a, .inl b], z, Q => id = 39 ∧ (∀ s : Int, 0 ≤ s ∧ s ≤ 1 → WfA (autR (z.1 40) s)) ∧
      (¬ (abF z s i a ∧ 0 ≤ b ∧ b < (bzF z s i a).length) → ∀ z' : pvM, deF z z' → z'.1 39 8 = 1 → Q (.inl (some (vI 0))) z') ∧
      (abF z s i a ∧ (0 ≤ b ∧ b < (bzF z s i a).length) → ∀ z' : pvM, deF z z' → z'.1 39 8 = 0 → Q (.inl (some (vI (ixF (dsF (autR (z.1 40) s)) (ndF (bzF z s i a) b.toNat))))) z')
  | _, _, _ => False
def bX10_branchTarget : Nat → List (Instr × Nat)
  | 0 => [(.aload_n 0, 1), (.aload_n 0, 1), (.iload_n 1, 1), (.iload_n 2, 1), (.iload_n 3, 1), (.invokevirtual 216, 3), (.ifCond .eq 22, 3), (.iload 4, 2), (.iconst 0, 1), (.aload_n 0, 1), (.getfield 209, 3), (.iconst 1, 1), (.isub, 1), (.invokestatic 76, 3), (.ifCond .eq 7, 3), (.iconst 0, 1), (.goto 4, 3)]
  | 30 => [(.iconst 1, 1)]
  | 31 => [(.putfield 73, 3), (.aload_n 0, 1), (.getfield 73, 3), (.ifCond .ne 13, 3), (.aload_n 0, 1), (.getfield 45, 3), (.iload 4, 2), (.iaload, 1), (.goto 4, 3)]
  | 51 => [(.iconst 0, 1)]
  | 52 => [(.ireturn, 1)]
  | _ => []
def uX10_branchTarget : Nat → Option (List Bool)
  | _ => none
def aX10_branchTarget : pvCa
  | 76 => some (3, true, 0, 0, C_X10_in)
  | 216 => some (4, false, 9, 0, C_X10_areBranches)
  | _ => none
theorem bX10_branchTarget_0 : bX10_branchTarget 0 = [(.aload_n 0, 1), (.aload_n 0, 1), (.iload_n 1, 1), (.iload_n 2, 1), (.iload_n 3, 1), (.invokevirtual 216, 3), (.ifCond .eq 22, 3), (.iload 4, 2), (.iconst 0, 1), (.aload_n 0, 1), (.getfield 209, 3), (.iconst 1, 1), (.isub, 1), (.invokestatic 76, 3), (.ifCond .eq 7, 3), (.iconst 0, 1), (.goto 4, 3)] := rfl
theorem uX10_branchTarget_0 : uX10_branchTarget 0 = none := rfl
theorem bX10_branchTarget_30 : bX10_branchTarget 30 = [(.iconst 1, 1)] := rfl
theorem uX10_branchTarget_30 : uX10_branchTarget 30 = none := rfl
theorem bX10_branchTarget_31 : bX10_branchTarget 31 = [(.putfield 73, 3), (.aload_n 0, 1), (.getfield 73, 3), (.ifCond .ne 13, 3), (.aload_n 0, 1), (.getfield 45, 3), (.iload 4, 2), (.iaload, 1), (.goto 4, 3)] := rfl
theorem uX10_branchTarget_31 : uX10_branchTarget 31 = none := rfl
theorem bX10_branchTarget_51 : bX10_branchTarget 51 = [(.iconst 0, 1)] := rfl
theorem uX10_branchTarget_51 : uX10_branchTarget 51 = none := rfl
theorem bX10_branchTarget_52 : bX10_branchTarget 52 = [(.ireturn, 1)] := rfl
theorem uX10_branchTarget_52 : uX10_branchTarget 52 = none := rfl
theorem aX10_branchTarget_76 : aX10_branchTarget 76 = some (3, true, 0, 0, C_X10_in) := rfl
theorem aX10_branchTarget_216 : aX10_branchTarget 216 = some (4, false, 9, 0, C_X10_areBranches) := rfl
def mX10_branchTarget : Room := { frames := 5, cells := 1, slots := 6, locals := 117 }
set_option maxRecDepth 100000 in
set_option maxHeartbeats 4000000 in
theorem okX10_branchTarget : pvOkM fX10 aX10_branchTarget kX10 eX10 (some .int) bX10_branchTarget uX10_branchTarget 5 C_X10_branchTarget := by
  intro Q SW hc as z h hS hz
  unfold C_X10_branchTarget at h
  split at h
  · rename_i id s i a b
    obtain ⟨rfl, hws, h1, h2⟩ := h
    refine ⟨Nat.le_of_ble_eq_true rfl, hc 20 _ _ _ fun _ _ => ?_⟩
    clear hc hS hz
    simp only [pvSt1]
    simp only [C_X10_areBranches, C_X10_in, pvE_aload_n0, pvLA_s, pvLd, pvE_iload_n1, pvLI_s, pvE_iload_n2, pvE_iload_n3, pvE_invokevirtual, pvC1_s, pvC2_s, pvAf_v, pvAf_x, pvPop, pvCs, pvCat, pvPush, aX10_branchTarget_216, pvSh_0, pvSh_1, pvSh_2, pvSh_3, pvSh_4, pvSh_5, pvSh_6, pvSh_7, pvSh_8, pvSh_9, pvSh_10, pvSh_11, pvSh_12, pvSh_13, pvSh_14, pvSh_15, pvSh_16, pvSh_17, pvSh_18, pvSh_19, pvSh_20, pvSh_21, pvSh_22, pvSh_23, pvSh_24, pvSh_25, pvSh_26, pvSh_27, pvSh_28, pvSh_29, pvSh_30, pvSh_31, pvSh_32, pvSh_33, pvSh_34, pvSh_35, pvSh_36, pvSh_37, pvSh_38, pvSh_39, pvSh_40, pvSh_41, pvSh_42, pvSh_43, pvSh_44, pvSh_45, pvSh_46, pvSh_47, pvSh_48, pvSh_49, pvSh_50, pvSh_51, pvSh_52, pvSh_53, pvSh_54, pvSh_55, pvSh_56, pvSh_57, pvSh_58, pvSh_59, pvE_if_eq, pvE_iload, pvE_iconst, pvE_getfield, pvGf_0, pvGf_1, pvGf_2, fX10_209, pvRf_0_0, pvRf_0_1, pvRf_0_2, pvRf_0_3, pvRf_0_4, pvRf_0_5, pvRf_0_6, pvRf_0_7, pvRf_0_8, pvRf_0_9, pvRf_0_10, pvRf_1_0, pvRf_3_0, pvRf_5_0, pvRf_5_1, pvRf_5_2, pvRf_9_0, pvRf_9_1, pvRf_9_2, pvRf_13_0, pvRf_13_1, pvRf_13_2, pvRf_17_0, pvRf_17_2, pvRf_20_0, pvRf_20_1, pvRf_20_2, pvRf_24_0, pvRf_24_1, pvRf_24_2, pvRf_28_0, pvRf_28_1, pvRf_28_2, pvRf_28_3, pvRf_33_0, pvRf_33_1, pvRf_36_0, pvRf_36_1, pvRf_39_0, pvRf_39_1, pvRf_39_2, pvRf_39_5, pvRf_39_6, pvRf_39_9, pvRf_39_13, pvRf_39_15, pvRf_39_16, pvRf_39_17, pvRf_39_19, pvRf_39_20, pvRf_39_22, pvRf_39_23, pvRf_39_24, pvRf_39_25, pvRf_39_29, pvRf_39_30, pvE_isub, pvE_invokestatic (h0 := eX10_76), aX10_branchTarget_76, pvE_goto, pvE_putfield, pvPf_0, pvPf_1, fX10_73, pvE_if_ne, fX10_45, pvE_iaload, pvAI, pvE_ireturn, bX10_branchTarget_0, uX10_branchTarget_0, bX10_branchTarget_30, uX10_branchTarget_30, bX10_branchTarget_31, uX10_branchTarget_31, bX10_branchTarget_51, uX10_branchTarget_51, bX10_branchTarget_52, uX10_branchTarget_52, pvRecv_r, pvUp_nl, pvUp_same, pvUp_ap, pvSt_ap, pvX_c, pvX_ms, pvX_mn, pvE_nil, pvEn_i, pvEn_r, pvEn_l, pvEn_0, pvEn_s, pvRt, pvRv, pvTh, pvKc, pvGo, pvTgt, Int.toNat_natCast, false_and, and_false, true_and, and_true, if_true, if_false, reduceIte, reduceCtorEq, forall_const, false_or, or_false, true_or, or_true, ne_eq, not_true_eq_false, not_false_eq_true, implies_true, false_implies, Nat.reduceAdd, Nat.reduceSub, Nat.reduceMul, Nat.reduceEqDiff, Nat.reduceLT, Nat.reduceLeDiff, Int.reduceAdd, Int.reduceSub, Int.reduceMul, Int.reduceNeg, Int.reduceToNat, Int.reduceLE, Int.reduceLT, Int.reduceEq, Int.reduceNe, and_self]
    by_cases hv : abF z s i a
    · have hl16 : (bzF z s i a).length ≤ 16 := brF_len (hws s hv.1) _ _
      (repeat' first | with_reducible apply And.intro | with_reducible intro _)
      all_goals first
        | omega
        | exact hws
        | exact hws _ (by assumption)
        | contradiction
        | skip
      all_goals
        rename frF [39, 48, 49, 50, 51] [] _ _ => f1
        rename ∀ (j : Nat), ¬j = 18 → ¬j = 21 → _ => k1
        rename _ = (((bzF z s i a).length : Nat) : Int) => e21
        rename ∀ (b : Nat), b < _ → _ => o1
        try rw [e21]
        by_cases hb : 0 ≤ b ∧ b < (bzF z s i a).length
        · obtain ⟨d1, d2⟩ := deF_of (v := 0) f1 k1
          have h3 := h2 ⟨hv, hb⟩ _ d1 d2
          rw [← (o1 b.toNat (by omega)).1] at h3
          (repeat' first | with_reducible apply And.intro | with_reducible intro _)
          all_goals first
            | omega
            | contradiction
            | exact h3
        · obtain ⟨d1, d2⟩ := deF_of (v := 1) f1 k1
          have h3 := h1 (fun q => hb q.2) _ d1 d2
          (repeat' first | with_reducible apply And.intro | with_reducible intro _)
          all_goals first
            | omega
            | contradiction
            | exact h3
    · (repeat' first | with_reducible apply And.intro | with_reducible intro _)
      all_goals first
        | omega
        | exact hws
        | exact hws _ (by assumption)
        | contradiction
        | skip
      all_goals
        rename frF [39, 48, 49] [] _ _ => f1
        rename ∀ (j : Nat), ¬j = 18 → _ = _ => k1
        obtain ⟨d1, d2⟩ := deF_of (v := 1) (frF_t frF_0 f1 (by decide) (by decide)) (fun j h1 _ => k1 j h1)
        exact h1 (fun q => hv q.1) _ d1 d2
  · exact h.elim
def C_X10_branchValuations : pvC
  | [.inr (.inr (.inl id)), .inl s, .inl i, .inl a, .inl b], z, Q => id = 39 ∧ (∀ s : Int, 0 ≤ s ∧ s ≤ 1 → WfA (autR (z.1 40) s)) ∧
      (¬ (abF z s i a ∧ 0 ≤ b ∧ b < (bzF z s i a).length) → ∀ z' : pvM, deF z z' → z'.1 39 8 = 1 → Q (.inl (some (vI 0))) z') ∧
      (abF z s i a ∧ (0 ≤ b ∧ b < (bzF z s i a).length) → ∀ z' : pvM, deF z z' → z'.1 39 8 = 0 → Q (.inl (some (vI (cvK (autR (z.1 40) s) (ndF (dsF (autR (z.1 40) s)) i.toNat) a (ndF (bzF z s i a) b.toNat) nVal)))) z')
  | _, _, _ => False
def bX10_branchValuations : Nat → List (Instr × Nat)
  | 0 => [(.aload_n 0, 1), (.aload_n 0, 1), (.iload_n 1, 1), (.iload_n 2, 1), (.iload_n 3, 1), (.invokevirtual 216, 3), (.ifCond .eq 22, 3), (.iload 4, 2), (.iconst 0, 1), (.aload_n 0, 1), (.getfield 209, 3), (.iconst 1, 1), (.isub, 1), (.invokestatic 76, 3), (.ifCond .eq 7, 3), (.iconst 0, 1), (.goto 4, 3)]
  | 30 => [(.iconst 1, 1)]
  | 31 => [(.putfield 73, 3), (.aload_n 0, 1), (.getfield 73, 3), (.ifCond .ne 13, 3), (.aload_n 0, 1), (.getfield 48, 3), (.iload 4, 2), (.iaload, 1), (.goto 4, 3)]
  | 51 => [(.iconst 0, 1)]
  | 52 => [(.ireturn, 1)]
  | _ => []
def uX10_branchValuations : Nat → Option (List Bool)
  | _ => none
def aX10_branchValuations : pvCa
  | 76 => some (3, true, 0, 0, C_X10_in)
  | 216 => some (4, false, 9, 0, C_X10_areBranches)
  | _ => none
theorem bX10_branchValuations_0 : bX10_branchValuations 0 = [(.aload_n 0, 1), (.aload_n 0, 1), (.iload_n 1, 1), (.iload_n 2, 1), (.iload_n 3, 1), (.invokevirtual 216, 3), (.ifCond .eq 22, 3), (.iload 4, 2), (.iconst 0, 1), (.aload_n 0, 1), (.getfield 209, 3), (.iconst 1, 1), (.isub, 1), (.invokestatic 76, 3), (.ifCond .eq 7, 3), (.iconst 0, 1), (.goto 4, 3)] := rfl
theorem uX10_branchValuations_0 : uX10_branchValuations 0 = none := rfl
theorem bX10_branchValuations_30 : bX10_branchValuations 30 = [(.iconst 1, 1)] := rfl
theorem uX10_branchValuations_30 : uX10_branchValuations 30 = none := rfl
theorem bX10_branchValuations_31 : bX10_branchValuations 31 = [(.putfield 73, 3), (.aload_n 0, 1), (.getfield 73, 3), (.ifCond .ne 13, 3), (.aload_n 0, 1), (.getfield 48, 3), (.iload 4, 2), (.iaload, 1), (.goto 4, 3)] := rfl
theorem uX10_branchValuations_31 : uX10_branchValuations 31 = none := rfl
theorem bX10_branchValuations_51 : bX10_branchValuations 51 = [(.iconst 0, 1)] := rfl
theorem uX10_branchValuations_51 : uX10_branchValuations 51 = none := rfl
theorem bX10_branchValuations_52 : bX10_branchValuations 52 = [(.ireturn, 1)] := rfl
theorem uX10_branchValuations_52 : uX10_branchValuations 52 = none := rfl
theorem aX10_branchValuations_76 : aX10_branchValuations 76 = some (3, true, 0, 0, C_X10_in) := rfl
theorem aX10_branchValuations_216 : aX10_branchValuations 216 = some (4, false, 9, 0, C_X10_areBranches) := rfl
def mX10_branchValuations : Room := { frames := 5, cells := 1, slots := 6, locals := 117 }
set_option maxRecDepth 100000 in
set_option maxHeartbeats 4000000 in
theorem okX10_branchValuations : pvOkM fX10 aX10_branchValuations kX10 eX10 (some .int) bX10_branchValuations uX10_branchValuations 5 C_X10_branchValuations := by
  intro Q SW hc as z h hS hz
  unfold C_X10_branchValuations at h
  split at h
  · rename_i id s i a b
    obtain ⟨rfl, hws, h1, h2⟩ := h
    refine ⟨Nat.le_of_ble_eq_true rfl, hc 20 _ _ _ fun _ _ => ?_⟩
    clear hc hS hz
    simp only [pvSt1]
    simp only [C_X10_areBranches, C_X10_in, pvE_aload_n0, pvLA_s, pvLd, pvE_iload_n1, pvLI_s, pvE_iload_n2, pvE_iload_n3, pvE_invokevirtual, pvC1_s, pvC2_s, pvAf_v, pvAf_x, pvPop, pvCs, pvCat, pvPush, aX10_branchValuations_216, pvSh_0, pvSh_1, pvSh_2, pvSh_3, pvSh_4, pvSh_5, pvSh_6, pvSh_7, pvSh_8, pvSh_9, pvSh_10, pvSh_11, pvSh_12, pvSh_13, pvSh_14, pvSh_15, pvSh_16, pvSh_17, pvSh_18, pvSh_19, pvSh_20, pvSh_21, pvSh_22, pvSh_23, pvSh_24, pvSh_25, pvSh_26, pvSh_27, pvSh_28, pvSh_29, pvSh_30, pvSh_31, pvSh_32, pvSh_33, pvSh_34, pvSh_35, pvSh_36, pvSh_37, pvSh_38, pvSh_39, pvSh_40, pvSh_41, pvSh_42, pvSh_43, pvSh_44, pvSh_45, pvSh_46, pvSh_47, pvSh_48, pvSh_49, pvSh_50, pvSh_51, pvSh_52, pvSh_53, pvSh_54, pvSh_55, pvSh_56, pvSh_57, pvSh_58, pvSh_59, pvE_if_eq, pvE_iload, pvE_iconst, pvE_getfield, pvGf_0, pvGf_1, pvGf_2, fX10_209, pvRf_0_0, pvRf_0_1, pvRf_0_2, pvRf_0_3, pvRf_0_4, pvRf_0_5, pvRf_0_6, pvRf_0_7, pvRf_0_8, pvRf_0_9, pvRf_0_10, pvRf_1_0, pvRf_3_0, pvRf_5_0, pvRf_5_1, pvRf_5_2, pvRf_9_0, pvRf_9_1, pvRf_9_2, pvRf_13_0, pvRf_13_1, pvRf_13_2, pvRf_17_0, pvRf_17_2, pvRf_20_0, pvRf_20_1, pvRf_20_2, pvRf_24_0, pvRf_24_1, pvRf_24_2, pvRf_28_0, pvRf_28_1, pvRf_28_2, pvRf_28_3, pvRf_33_0, pvRf_33_1, pvRf_36_0, pvRf_36_1, pvRf_39_0, pvRf_39_1, pvRf_39_2, pvRf_39_5, pvRf_39_6, pvRf_39_9, pvRf_39_13, pvRf_39_15, pvRf_39_16, pvRf_39_17, pvRf_39_19, pvRf_39_20, pvRf_39_22, pvRf_39_23, pvRf_39_24, pvRf_39_25, pvRf_39_29, pvRf_39_30, pvE_isub, pvE_invokestatic (h0 := eX10_76), aX10_branchValuations_76, pvE_goto, pvE_putfield, pvPf_0, pvPf_1, fX10_73, pvE_if_ne, fX10_48, pvE_iaload, pvAI, pvE_ireturn, bX10_branchValuations_0, uX10_branchValuations_0, bX10_branchValuations_30, uX10_branchValuations_30, bX10_branchValuations_31, uX10_branchValuations_31, bX10_branchValuations_51, uX10_branchValuations_51, bX10_branchValuations_52, uX10_branchValuations_52, pvRecv_r, pvUp_nl, pvUp_same, pvUp_ap, pvSt_ap, pvX_c, pvX_ms, pvX_mn, pvE_nil, pvEn_i, pvEn_r, pvEn_l, pvEn_0, pvEn_s, pvRt, pvRv, pvTh, pvKc, pvGo, pvTgt, Int.toNat_natCast, false_and, and_false, true_and, and_true, if_true, if_false, reduceIte, reduceCtorEq, forall_const, false_or, or_false, true_or, or_true, ne_eq, not_true_eq_false, not_false_eq_true, implies_true, false_implies, Nat.reduceAdd, Nat.reduceSub, Nat.reduceMul, Nat.reduceEqDiff, Nat.reduceLT, Nat.reduceLeDiff, Int.reduceAdd, Int.reduceSub, Int.reduceMul, Int.reduceNeg, Int.reduceToNat, Int.reduceLE, Int.reduceLT, Int.reduceEq, Int.reduceNe, and_self]
    by_cases hv : abF z s i a
    · have hl16 : (bzF z s i a).length ≤ 16 := brF_len (hws s hv.1) _ _
      (repeat' first | with_reducible apply And.intro | with_reducible intro _)
      all_goals first
        | omega
        | exact hws
        | exact hws _ (by assumption)
        | contradiction
        | skip
      all_goals
        rename frF [39, 48, 49, 50, 51] [] _ _ => f1
        rename ∀ (j : Nat), ¬j = 18 → ¬j = 21 → _ => k1
        rename _ = (((bzF z s i a).length : Nat) : Int) => e21
        rename ∀ (b : Nat), b < _ → _ => o1
        try rw [e21]
        by_cases hb : 0 ≤ b ∧ b < (bzF z s i a).length
        · obtain ⟨d1, d2⟩ := deF_of (v := 0) f1 k1
          have h3 := h2 ⟨hv, hb⟩ _ d1 d2
          rw [← (o1 b.toNat (by omega)).2] at h3
          (repeat' first | with_reducible apply And.intro | with_reducible intro _)
          all_goals first
            | omega
            | contradiction
            | exact h3
        · obtain ⟨d1, d2⟩ := deF_of (v := 1) f1 k1
          have h3 := h1 (fun q => hb q.2) _ d1 d2
          (repeat' first | with_reducible apply And.intro | with_reducible intro _)
          all_goals first
            | omega
            | contradiction
            | exact h3
    · (repeat' first | with_reducible apply And.intro | with_reducible intro _)
      all_goals first
        | omega
        | exact hws
        | exact hws _ (by assumption)
        | contradiction
        | skip
      all_goals
        rename frF [39, 48, 49] [] _ _ => f1
        rename ∀ (j : Nat), ¬j = 18 → _ = _ => k1
        obtain ⟨d1, d2⟩ := deF_of (v := 1) (frF_t frF_0 f1 (by decide) (by decide)) (fun j h1 _ => k1 j h1)
        exact h1 (fun q => hv q.1) _ d1 d2
  · exact h.elim
def C_X10_deterministicRun : pvC
  | [.inr (.inr (.inl id)), .inl s], z, Q => id = 39 ∧ ((∀ s : Int, 0 ≤ s ∧ s ≤ 1 → WfA (autR (z.1 40) s)) ∧ WdF (z.1 39 7) (z.1 43) (z.1 44)) ∧
      (¬ (0 ≤ s ∧ s ≤ 1) → Q (.inl (some (vI 0))) (pvUp z.1 39 8 1, z.2)) ∧
      (0 ≤ s ∧ s ≤ 1 → ∀ z' : pvM, deF z z' → z'.1 39 8 = 0 → Q (.inl (some (vI (ixF (dsF (autR (z.1 40) s)) (afK (autR (z.1 40) s) (z.1 43) (z.1 44) (z.1 39 7).toNat))))) z')
  | _, _, _ => False
def bX10_deterministicRun : Nat → List (Instr × Nat)
  | 0 => [(.aload_n 0, 1), (.iconst 0, 1), (.putfield 73, 3), (.iload_n 1, 1), (.invokestatic 80, 3), (.ifCond .ne 9, 3), (.aload_n 0, 1), (.iconst 1, 1), (.invokevirtual 87, 3), (.ireturn, 1)]
  | 18 => [(.aload_n 0, 1), (.iload_n 1, 1), (.invokevirtual 206, 3), (.aload_n 0, 1), (.aload_n 0, 1), (.iload_n 1, 1), (.aload_n 0, 1), (.getfield 158, 3), (.invokevirtual 184, 3), (.invokevirtual 200, 3), (.ireturn, 1)]
  | _ => []
def uX10_deterministicRun : Nat → Option (List Bool)
  | _ => none
def aX10_deterministicRun : pvCa
  | 80 => some (1, true, 0, 0, C_X10_isSlot)
  | 87 => some (2, false, 9, 0, C_X10_fails)
  | 184 => some (3, false, 9, 0, C_X10_after)
  | 200 => some (2, false, 9, 0, C_X10_numberOf)
  | 206 => some (2, false, 9, 0, C_X10_determines)
  | _ => none
theorem bX10_deterministicRun_0 : bX10_deterministicRun 0 = [(.aload_n 0, 1), (.iconst 0, 1), (.putfield 73, 3), (.iload_n 1, 1), (.invokestatic 80, 3), (.ifCond .ne 9, 3), (.aload_n 0, 1), (.iconst 1, 1), (.invokevirtual 87, 3), (.ireturn, 1)] := rfl
theorem uX10_deterministicRun_0 : uX10_deterministicRun 0 = none := rfl
theorem bX10_deterministicRun_18 : bX10_deterministicRun 18 = [(.aload_n 0, 1), (.iload_n 1, 1), (.invokevirtual 206, 3), (.aload_n 0, 1), (.aload_n 0, 1), (.iload_n 1, 1), (.aload_n 0, 1), (.getfield 158, 3), (.invokevirtual 184, 3), (.invokevirtual 200, 3), (.ireturn, 1)] := rfl
theorem uX10_deterministicRun_18 : uX10_deterministicRun 18 = none := rfl
theorem aX10_deterministicRun_80 : aX10_deterministicRun 80 = some (1, true, 0, 0, C_X10_isSlot) := rfl
theorem aX10_deterministicRun_87 : aX10_deterministicRun 87 = some (2, false, 9, 0, C_X10_fails) := rfl
theorem aX10_deterministicRun_184 : aX10_deterministicRun 184 = some (3, false, 9, 0, C_X10_after) := rfl
theorem aX10_deterministicRun_200 : aX10_deterministicRun 200 = some (2, false, 9, 0, C_X10_numberOf) := rfl
theorem aX10_deterministicRun_206 : aX10_deterministicRun 206 = some (2, false, 9, 0, C_X10_determines) := rfl
def mX10_deterministicRun : Room := { frames := 5, cells := 1, slots := 6, locals := 123 }
set_option maxRecDepth 100000 in
set_option maxHeartbeats 4000000 in
theorem okX10_deterministicRun : pvOkM fX10 aX10_deterministicRun kX10 eX10 (some .int) bX10_deterministicRun uX10_deterministicRun 2 C_X10_deterministicRun := by
  intro Q SW hc as z h hS hz
  unfold C_X10_deterministicRun at h
  split at h
  · rename_i id s
    obtain ⟨rfl, ⟨hws, hd⟩, h1, h2⟩ := h
    have hd1 := hd.1
    refine ⟨Nat.le_of_ble_eq_true rfl, hc 20 _ _ _ fun _ _ => ?_⟩
    clear hc hS hz
    simp only [pvSt1]
    simp only [C_X10_isSlot, C_X10_fails, C_X10_determines, C_X10_after, C_X10_numberOf, pvE_aload_n0, pvLA_s, pvLd, pvE_iconst, pvE_putfield, pvPf_0, pvPf_1, fX10_73, pvSh_0, pvSh_1, pvSh_2, pvSh_3, pvSh_4, pvSh_5, pvSh_6, pvSh_7, pvSh_8, pvSh_9, pvSh_10, pvSh_11, pvSh_12, pvSh_13, pvSh_14, pvSh_15, pvSh_16, pvSh_17, pvSh_18, pvSh_19, pvSh_20, pvSh_21, pvSh_22, pvSh_23, pvSh_24, pvSh_25, pvSh_26, pvSh_27, pvSh_28, pvSh_29, pvSh_30, pvSh_31, pvSh_32, pvSh_33, pvSh_34, pvSh_35, pvSh_36, pvSh_37, pvSh_38, pvSh_39, pvSh_40, pvSh_41, pvSh_42, pvSh_43, pvSh_44, pvSh_45, pvSh_46, pvSh_47, pvSh_48, pvSh_49, pvSh_50, pvSh_51, pvSh_52, pvSh_53, pvSh_54, pvSh_55, pvSh_56, pvSh_57, pvSh_58, pvSh_59, pvE_iload_n1, pvLI_s, pvE_invokestatic (h0 := eX10_80), pvC1_s, pvC2_s, pvAf_v, pvAf_x, pvPop, pvCs, pvCat, pvPush, aX10_deterministicRun_80, pvE_if_ne, pvE_invokevirtual, aX10_deterministicRun_87, pvE_ireturn, aX10_deterministicRun_206, pvE_getfield, pvGf_0, pvGf_1, pvGf_2, fX10_158, pvRf_0_0, pvRf_0_1, pvRf_0_2, pvRf_0_3, pvRf_0_4, pvRf_0_5, pvRf_0_6, pvRf_0_7, pvRf_0_8, pvRf_0_9, pvRf_0_10, pvRf_1_0, pvRf_3_0, pvRf_5_0, pvRf_5_1, pvRf_5_2, pvRf_9_0, pvRf_9_1, pvRf_9_2, pvRf_13_0, pvRf_13_1, pvRf_13_2, pvRf_17_0, pvRf_17_2, pvRf_20_0, pvRf_20_1, pvRf_20_2, pvRf_24_0, pvRf_24_1, pvRf_24_2, pvRf_28_0, pvRf_28_1, pvRf_28_2, pvRf_28_3, pvRf_33_0, pvRf_33_1, pvRf_36_0, pvRf_36_1, pvRf_39_0, pvRf_39_1, pvRf_39_2, pvRf_39_5, pvRf_39_6, pvRf_39_9, pvRf_39_13, pvRf_39_15, pvRf_39_16, pvRf_39_17, pvRf_39_19, pvRf_39_20, pvRf_39_22, pvRf_39_23, pvRf_39_24, pvRf_39_25, pvRf_39_29, pvRf_39_30, aX10_deterministicRun_184, aX10_deterministicRun_200, bX10_deterministicRun_0, uX10_deterministicRun_0, bX10_deterministicRun_18, uX10_deterministicRun_18, pvRecv_r, pvUp_nl, pvUp_same, pvUp_ap, pvSt_ap, pvX_c, pvX_ms, pvX_mn, pvE_nil, pvEn_i, pvEn_r, pvEn_l, pvEn_0, pvEn_s, pvRt, pvRv, pvTh, pvKc, pvGo, pvTgt, Int.toNat_natCast, false_and, and_false, true_and, and_true, if_true, if_false, reduceIte, reduceCtorEq, forall_const, false_or, or_false, true_or, or_true, ne_eq, not_true_eq_false, not_false_eq_true, implies_true, false_implies, Nat.reduceAdd, Nat.reduceSub, Nat.reduceMul, Nat.reduceEqDiff, Nat.reduceLT, Nat.reduceLeDiff, Int.reduceAdd, Int.reduceSub, Int.reduceMul, Int.reduceNeg, Int.reduceToNat, Int.reduceLE, Int.reduceLT, Int.reduceEq, Int.reduceNe, and_self]
    by_cases hs : 0 ≤ s ∧ s ≤ 1
    · have hw := hws s hs
      (repeat' first | with_reducible apply And.intro | with_reducible intro _)
      all_goals first
        | omega
        | exact hws
        | exact hws _ (by assumption)
        | skip
      all_goals
        rename frF [39, 48, 49] [] _ _ => f1
        rename rsL _ _ => r1
        rename ∀ (j : Nat), ¬j = 18 → _ => k1
        obtain ⟨d1, d2⟩ := deF_of8 f1 k1
        have h3 := h2 hs _ d1 d2
        have g40 := d1.1.1 40 (by decide)
        have g43 := d1.1.1 43 (by decide)
        have g44 := d1.1.1 44 (by decide)
        have g7 := d1.2 7 (by decide) (by decide) (by decide)
        have hm := dsF_af hw hd (z.1 39 7).toNat (by omega)
        simp only [g40, g43, g44, g7]
        (repeat' first | with_reducible apply And.intro | with_reducible intro _)
        all_goals first
          | omega
          | assumption
          | exact ⟨_, ⟨r1.1, r1.2, okL_len (dsF_ok hw), fun hn => absurd hm hn⟩, fun _ => h3, fun hn => absurd hm hn⟩
    · have h3 := h1 hs
      (repeat' first | with_reducible apply And.intro | with_reducible intro _)
      all_goals first
        | omega
        | assumption
  · exact h.elim
