def C_X0_writeTo : pvC
  | [.inr (.inr (.inl a)), .inr (.inr (.inl r)), .inl p], z, Q => ((a = 1 ∨ a = 3) ∧ (r = 37 ∨ r = 38) ∧ 0 ≤ p ∧ p + 173 ≤ pvAI r) ∧ ∀ g : Nat → Int, (∀ k, k < 173 → g (p.toNat + k) = z.1 (a + 1) k) → (∀ k, k < p.toNat ∨ p.toNat + 173 ≤ k → g k = z.1 r k) → Q (.inl none) (pvSt z.1 r g, z.2)
  | _, _, _ => False
def bX0_writeTo : Nat → List (Instr × Nat)
  | 0 => [(.iload_n 2, 1), (.aload_n 1, 1), (.arraylength, 1), (.sipush 173, 3), (.isub, 1), (.iconst 1, 1), (.iadd, 1), (.invokestatic 15, 3), (.ifCond .eq 16, 3), (.aload_n 0, 1), (.getfield 11, 3), (.iconst 0, 1), (.aload_n 1, 1), (.iload_n 2, 1), (.sipush 173, 3), (.invokestatic 50, 3)]
  | 28 => [(.return_, 1)]
  | _ => []
def uX0_writeTo : Nat → Option (List Bool)
  | _ => none
def aX0_writeTo : pvCa
  | 15 => some (2, true, 0, 0, C_X9_isIndex)
  | _ => none
theorem bX0_writeTo_0 : bX0_writeTo 0 = [(.iload_n 2, 1), (.aload_n 1, 1), (.arraylength, 1), (.sipush 173, 3), (.isub, 1), (.iconst 1, 1), (.iadd, 1), (.invokestatic 15, 3), (.ifCond .eq 16, 3), (.aload_n 0, 1), (.getfield 11, 3), (.iconst 0, 1), (.aload_n 1, 1), (.iload_n 2, 1), (.sipush 173, 3), (.invokestatic 50, 3)] := rfl
theorem uX0_writeTo_0 : uX0_writeTo 0 = none := rfl
theorem bX0_writeTo_28 : bX0_writeTo 28 = [(.return_, 1)] := rfl
theorem uX0_writeTo_28 : uX0_writeTo 28 = none := rfl
theorem aX0_writeTo_15 : aX0_writeTo 15 = some (2, true, 0, 0, C_X9_isIndex) := rfl
set_option maxRecDepth 100000 in
set_option maxHeartbeats 4000000 in
theorem okX0_writeTo : pvOkM fX0 aX0_writeTo kX0 eX0 none bX0_writeTo uX0_writeTo 3 C_X0_writeTo := by
  intro Q SW hc as z h hS hz
  unfold C_X0_writeTo at h
  split at h
  · rename_i a r p
    obtain ⟨⟨ha, hr, hp⟩, h2⟩ := h
    refine ⟨Nat.le_of_ble_eq_true rfl, hc 20 _ _ _ fun _ _ => ?_⟩
    clear hc hS
    have a37 : pvAI 37 = 2768 := rfl
    have a38 : pvAI 38 = 346 := rfl
    rcases ha with rfl | rfl <;> rcases hr with rfl | rfl <;> simp only [Nat.reduceAdd] at h2 <;> simp only [a37, a38] at hp <;>
    (simp only [pvSt1]
     simp only [C_X9_isIndex, pvE_iload_n2, pvLI_s, pvLd, pvE_aload_n1, pvLA_s, pvE_arraylength, pvAn, pvSh_0, pvSh_1, pvSh_2, pvSh_3, pvSh_4, pvSh_5, pvSh_6, pvSh_7, pvSh_8, pvSh_9, pvSh_10, pvSh_11, pvSh_12, pvSh_13, pvSh_14, pvSh_15, pvSh_16, pvSh_17, pvSh_18, pvSh_19, pvSh_20, pvSh_21, pvSh_22, pvSh_23, pvSh_24, pvSh_25, pvSh_26, pvSh_27, pvSh_28, pvSh_29, pvSh_30, pvSh_31, pvSh_32, pvSh_33, pvSh_34, pvSh_35, pvSh_36, pvSh_37, pvSh_38, pvE_sipush, pvE_isub, pvE_iconst, pvE_iadd, pvE_invokestatic (h0 := eX0_15), pvC1_s, pvC2_s, pvAf_v, pvAf_x, pvPop, pvCs, pvCat, pvPush, aX0_writeTo_15, pvE_if_eq, pvE_aload_n0, pvE_getfield, pvGf_0, pvGf_1, pvGf_2, fX0_11, pvRf_0_0, pvRf_0_1, pvRf_0_2, pvRf_0_3, pvRf_0_4, pvRf_0_5, pvRf_0_6, pvRf_0_7, pvRf_0_8, pvRf_0_9, pvRf_0_10, pvRf_1_0, pvRf_3_0, pvRf_5_0, pvRf_5_1, pvRf_5_2, pvRf_9_0, pvRf_9_1, pvRf_9_2, pvRf_13_0, pvRf_13_1, pvRf_13_2, pvRf_17_0, pvRf_17_2, pvRf_20_0, pvRf_20_1, pvRf_20_2, pvRf_24_0, pvRf_24_1, pvRf_24_2, pvRf_28_0, pvRf_28_1, pvRf_28_2, pvRf_28_3, pvRf_33_0, pvRf_33_1, pvRf_36_0, pvRf_36_1, pvE_copy_i (h0 := eX0_50), pvAI, pvAL, pvE_return, bX0_writeTo_0, uX0_writeTo_0, bX0_writeTo_28, uX0_writeTo_28, pvRtG, pvRecv_r, pvUp_nl, pvUp_same, pvUp_ap, pvSt_ap, pvX_c, pvX_ms, pvX_mn, pvE_nil, pvEn_i, pvEn_r, pvEn_l, pvEn_0, pvEn_s, pvRt, pvRv, pvTh, pvKc, pvGo, pvTgt, Int.toNat_natCast, false_and, and_false, true_and, and_true, if_true, if_false, reduceIte, reduceCtorEq, forall_const, false_or, or_false, true_or, or_true, ne_eq, not_true_eq_false, not_false_eq_true, implies_true, false_implies, Nat.reduceAdd, Nat.reduceSub, Nat.reduceMul, Nat.reduceEqDiff, Nat.reduceLT, Nat.reduceLeDiff, Int.reduceAdd, Int.reduceSub, Int.reduceMul, Int.reduceNeg, Int.reduceToNat, Int.reduceLE, Int.reduceLT, Int.reduceEq, Int.reduceNe, and_self]
     (repeat' (first | with_reducible apply And.intro | intro _))
     all_goals first
       | omega
       | assumption
       | exact h2 _ (fun k hk => by show (if p.toNat ≤ p.toNat + k ∧ p.toNat + k < p.toNat + 173 then _ else _) = _; rw [if_pos ⟨by omega, by omega⟩, Nat.zero_add, Nat.add_sub_cancel_left]) (fun k hk => by show (if p.toNat ≤ k ∧ k < p.toNat + 173 then _ else _) = _; rw [if_neg (by omega)]))
  · exact h.elim
