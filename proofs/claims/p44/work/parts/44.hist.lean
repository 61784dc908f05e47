def C_X2_remember : pvC
  | [.inr (.inr (.inl id)), .inr (.inr (.inl a)), .inr (.inr (.inl b))], z, Q => id = 36 ∧ (a = 1 ∧ b = 3 ∧ (0 ≤ z.1 36 2 ∧ z.1 36 2 ≤ 7) ∧ 0 ≤ z.1 36 3 ∧ z.1 36 3 ≤ 8) ∧
      ∀ z' : pvM, frF [36, 37] [] z z' → (∀ j, j ≠ 2 → j ≠ 3 → z'.1 36 j = z.1 36 j) → z'.1 36 2 = (z.1 36 2 + 1) % 8 → z'.1 36 3 = (if z.1 36 3 = 8 then 8 else z.1 36 3 + 1) →
        (∀ k : Nat, k < 173 → z'.1 37 (346 * (z.1 36 2).toNat + k) = z.1 2 k) → (∀ k : Nat, k < 173 → z'.1 37 (346 * (z.1 36 2).toNat + 173 + k) = z.1 4 k) → (∀ k : Nat, k < 346 * (z.1 36 2).toNat ∨ 346 * (z.1 36 2).toNat + 346 ≤ k → z'.1 37 k = z.1 37 k) → Q (.inl none) z'
  | _, _, _ => False
def bX2_remember : Nat → List (Instr × Nat)
  | 0 => [(.aload_n 1, 1), (.aload_n 0, 1), (.getfield 13, 3), (.aload_n 0, 1), (.getfield 20, 3), (.sipush 346, 3), (.imul, 1), (.invokevirtual 31, 3), (.aload_n 2, 1), (.aload_n 0, 1), (.getfield 13, 3), (.aload_n 0, 1), (.getfield 20, 3), (.sipush 346, 3), (.imul, 1), (.sipush 173, 3), (.iadd, 1), (.invokevirtual 31, 3), (.aload_n 0, 1), (.aload_n 0, 1), (.getfield 20, 3), (.iconst 1, 1), (.iadd, 1), (.bipush 8, 2), (.irem, 1), (.putfield 20, 3), (.aload_n 0, 1), (.bipush 8, 2), (.aload_n 0, 1), (.getfield 24, 3), (.iconst 1, 1), (.iadd, 1), (.invokestatic 35, 3), (.putfield 24, 3), (.return_, 1)]
  | _ => []
def uX2_remember : Nat → Option (List Bool)
  | _ => none
def aX2_remember : pvCa
  | 31 => some (3, false, 0, 0, C_X0_writeTo)
  | 35 => some (2, true, 0, 0, C_J9_min_7cf53)
  | _ => none
theorem bX2_remember_0 : bX2_remember 0 = [(.aload_n 1, 1), (.aload_n 0, 1), (.getfield 13, 3), (.aload_n 0, 1), (.getfield 20, 3), (.sipush 346, 3), (.imul, 1), (.invokevirtual 31, 3), (.aload_n 2, 1), (.aload_n 0, 1), (.getfield 13, 3), (.aload_n 0, 1), (.getfield 20, 3), (.sipush 346, 3), (.imul, 1), (.sipush 173, 3), (.iadd, 1), (.invokevirtual 31, 3), (.aload_n 0, 1), (.aload_n 0, 1), (.getfield 20, 3), (.iconst 1, 1), (.iadd, 1), (.bipush 8, 2), (.irem, 1), (.putfield 20, 3), (.aload_n 0, 1), (.bipush 8, 2), (.aload_n 0, 1), (.getfield 24, 3), (.iconst 1, 1), (.iadd, 1), (.invokestatic 35, 3), (.putfield 24, 3), (.return_, 1)] := rfl
theorem uX2_remember_0 : uX2_remember 0 = none := rfl
theorem aX2_remember_31 : aX2_remember 31 = some (3, false, 0, 0, C_X0_writeTo) := rfl
theorem aX2_remember_35 : aX2_remember 35 = some (2, true, 0, 0, C_J9_min_7cf53) := rfl
set_option maxRecDepth 100000 in
set_option maxHeartbeats 4000000 in
theorem okX2_remember : pvOkM fX2 aX2_remember kX2 eX2 none bX2_remember uX2_remember 3 C_X2_remember := by
  intro Q SW hc as z h hS hz
  unfold C_X2_remember at h
  split at h
  · rename_i id a b
    obtain ⟨rfl, ⟨rfl, rfl, hn, hp⟩, h2⟩ := h
    have a37 : pvAI 37 = 2768 := rfl
    obtain ⟨n, en⟩ : ∃ n : Nat, z.1 36 2 = n := ⟨(z.1 36 2).toNat, by omega⟩
    have n1 : ((n : Int) * 346).toNat = 346 * n := by omega
    have n2 : ((n : Int) * 346 + 173).toNat = 346 * n + 173 := by omega
    rw [en, Int.toNat_natCast] at h2
    refine ⟨Nat.le_of_ble_eq_true rfl, hc 20 _ _ _ fun _ _ => ?_⟩
    clear hc hS
    simp only [pvSt1]
    simp only [C_X0_writeTo, C_J9_min_7cf53, a37, en, n1, n2, pvE_aload_n1, pvLA_s, pvLd, pvE_aload_n0, pvE_getfield, pvGf_0, pvGf_1, pvGf_2, fX2_13, pvSh_0, pvSh_1, pvSh_2, pvSh_3, pvSh_4, pvSh_5, pvSh_6, pvSh_7, pvSh_8, pvSh_9, pvSh_10, pvSh_11, pvSh_12, pvSh_13, pvSh_14, pvSh_15, pvSh_16, pvSh_17, pvSh_18, pvSh_19, pvSh_20, pvSh_21, pvSh_22, pvSh_23, pvSh_24, pvSh_25, pvSh_26, pvSh_27, pvSh_28, pvSh_29, pvSh_30, pvSh_31, pvSh_32, pvSh_33, pvSh_34, pvSh_35, pvSh_36, pvSh_37, pvSh_38, pvRf_0_0, pvRf_0_1, pvRf_0_2, pvRf_0_3, pvRf_0_4, pvRf_0_5, pvRf_0_6, pvRf_0_7, pvRf_0_8, pvRf_0_9, pvRf_0_10, pvRf_1_0, pvRf_3_0, pvRf_5_0, pvRf_5_1, pvRf_5_2, pvRf_9_0, pvRf_9_1, pvRf_9_2, pvRf_13_0, pvRf_13_1, pvRf_13_2, pvRf_17_0, pvRf_17_2, pvRf_20_0, pvRf_20_1, pvRf_20_2, pvRf_24_0, pvRf_24_1, pvRf_24_2, pvRf_28_0, pvRf_28_1, pvRf_28_2, pvRf_28_3, pvRf_33_0, pvRf_33_1, pvRf_36_0, pvRf_36_1, fX2_20, pvE_sipush, pvE_imul, pvE_invokevirtual, pvC1_s, pvC2_s, pvAf_v, pvAf_x, pvPop, pvCs, pvCat, pvPush, aX2_remember_31, pvE_aload_n2, pvE_iadd, pvE_iconst, pvE_bipush, pvE_irem, pvE_putfield, pvPf_0, pvPf_1, fX2_24, pvE_invokestatic (h0 := eX2_35), aX2_remember_35, pvE_return, bX2_remember_0, uX2_remember_0, pvRtG, pvRecv_r, pvUp_nl, pvUp_same, pvUp_ap, pvSt_ap, pvX_c, pvX_ms, pvX_mn, pvE_nil, pvEn_i, pvEn_r, pvEn_l, pvEn_0, pvEn_s, pvRt, pvRv, pvTh, pvKc, pvGo, pvTgt, Int.toNat_natCast, false_and, and_false, true_and, and_true, if_true, if_false, reduceIte, reduceCtorEq, forall_const, false_or, or_false, true_or, or_true, ne_eq, not_true_eq_false, not_false_eq_true, implies_true, false_implies, Nat.reduceAdd, Nat.reduceSub, Nat.reduceMul, Nat.reduceEqDiff, Nat.reduceLT, Nat.reduceLeDiff, Int.reduceAdd, Int.reduceSub, Int.reduceMul, Int.reduceNeg, Int.reduceToNat, Int.reduceLE, Int.reduceLT, Int.reduceEq, Int.reduceNe, and_self]
    (repeat' (first | with_reducible apply And.intro | intro _))
    all_goals first
      | omega
      | contradiction
      | skip
    all_goals
      rename_i g g1 g2 g' g3 g4
      refine h2 _ (by (repeat' first | assumption | exact frF_0 | (refine frF_u ?_ (by decide)) | (refine frF_s ?_ (by decide)) | (refine frF_l ?_ (by decide)))) (fun j _ _ => ?_) ?_ ?_ (fun k hk => ?_) (fun k hk => ?_) (fun k hk => ?_) <;> simp [pvUp_ap, pvSt_ap, *] at * <;> grind
  · exact h.elim
