/-! the reference: the fault of a text -/
def C_X10_faultOf : pvC
  | [.inr (.inr (.inl id))], z, Q => id = 39 ∧ ((0 ≤ z.1 39 10 ∧ z.1 39 10 ≤ 30) ∧ ∀ k : Nat, (k : Int) < z.1 39 10 → 0 ≤ z.1 45 k ∧ z.1 45 k ≤ 126) ∧
      ∀ z' : pvM, frF [39, 46] [] z z' → (∀ j, j ≠ 11 → j ≠ 14 → z'.1 39 j = z.1 39 j) → z'.1 39 14 = (rtF (z.1 45) (z.1 39 10)).2.1 → (∀ j, j < 3 * (rtF (z.1 45) (z.1 39 10)).2.1 → z'.1 46 j = (rtF (z.1 45) (z.1 39 10)).2.2 j) → Q (.inl (some (vI (rtF (z.1 45) (z.1 39 10)).1))) z'
  | _, _, _ => False
def bX10_faultOf : Nat → List (Instr × Nat)
  | 0 => [(.aload_n 0, 1), (.iconst 0, 1), (.putfield 101, 3), (.aload_n 0, 1), (.iconst 0, 1), (.putfield 117, 3), (.aload_n 0, 1), (.getfield 98, 3), (.ifCond .ne 5, 3), (.iconst (-1), 1), (.ireturn, 1)]
  | 19 => [(.aload_n 0, 1), (.invokevirtual 120, 3), (.ifCond .ne 8, 3), (.aload_n 0, 1), (.getfield 101, 3), (.ireturn, 1)]
  | 31 => [(.aload_n 0, 1), (.getfield 117, 3), (.iconst 4, 1), (.if_icmp .ge 12, 3), (.aload_n 0, 1), (.bipush 38, 2), (.invokevirtual 108, 3), (.ifCond .ne (-26), 3)]
  | 48 => [(.aload_n 0, 1), (.getfield 101, 3), (.aload_n 0, 1), (.getfield 98, 3), (.if_icmp .ge 10, 3), (.aload_n 0, 1), (.getfield 101, 3), (.goto 4, 3)]
  | 66 => [(.iconst (-1), 1)]
  | 67 => [(.ireturn, 1)]
  | _ => []
def uX10_faultOf : Nat → Option (List Bool)
  | 19 => some [true]
  | _ => none
def aX10_faultOf : pvCa
  | 108 => some (2, false, 9, 0, C_X10_skips)
  | 120 => some (1, false, 9, 0, C_X10_isConstraint)
  | _ => none
theorem bX10_faultOf_0 : bX10_faultOf 0 = [(.aload_n 0, 1), (.iconst 0, 1), (.putfield 101, 3), (.aload_n 0, 1), (.iconst 0, 1), (.putfield 117, 3), (.aload_n 0, 1), (.getfield 98, 3), (.ifCond .ne 5, 3), (.iconst (-1), 1), (.ireturn, 1)] := rfl
theorem uX10_faultOf_0 : uX10_faultOf 0 = none := rfl
theorem bX10_faultOf_19 : bX10_faultOf 19 = [(.aload_n 0, 1), (.invokevirtual 120, 3), (.ifCond .ne 8, 3), (.aload_n 0, 1), (.getfield 101, 3), (.ireturn, 1)] := rfl
theorem uX10_faultOf_19 : uX10_faultOf 19 = some [true] := rfl
theorem bX10_faultOf_31 : bX10_faultOf 31 = [(.aload_n 0, 1), (.getfield 117, 3), (.iconst 4, 1), (.if_icmp .ge 12, 3), (.aload_n 0, 1), (.bipush 38, 2), (.invokevirtual 108, 3), (.ifCond .ne (-26), 3)] := rfl
theorem uX10_faultOf_31 : uX10_faultOf 31 = none := rfl
theorem bX10_faultOf_48 : bX10_faultOf 48 = [(.aload_n 0, 1), (.getfield 101, 3), (.aload_n 0, 1), (.getfield 98, 3), (.if_icmp .ge 10, 3), (.aload_n 0, 1), (.getfield 101, 3), (.goto 4, 3)] := rfl
theorem uX10_faultOf_48 : uX10_faultOf 48 = none := rfl
theorem bX10_faultOf_66 : bX10_faultOf 66 = [(.iconst (-1), 1)] := rfl
theorem uX10_faultOf_66 : uX10_faultOf 66 = none := rfl
theorem bX10_faultOf_67 : bX10_faultOf 67 = [(.ireturn, 1)] := rfl
theorem uX10_faultOf_67 : uX10_faultOf 67 = none := rfl
theorem aX10_faultOf_108 : aX10_faultOf 108 = some (2, false, 9, 0, C_X10_skips) := rfl
theorem aX10_faultOf_120 : aX10_faultOf 120 = some (1, false, 9, 0, C_X10_isConstraint) := rfl
def mX10_faultOf : Room := { frames := 4, cells := 1, slots := 6, locals := 83 }
set_option maxRecDepth 100000 in
set_option maxHeartbeats 4000000 in
theorem okX10_faultOf : pvOkM fX10 aX10_faultOf kX10 eX10 (some .int) bX10_faultOf uX10_faultOf 1 C_X10_faultOf := by
  intro Q SW hc as z h hS hz
  unfold C_X10_faultOf at h
  split at h
  · rename_i id
    obtain ⟨rfl, ⟨hn, hx⟩, h2⟩ := h
    refine ⟨Nat.le_of_ble_eq_true rfl, ?_⟩
    have loop : ∀ (m i p : Nat) (z' : pvM) (G : Nat → Int), i + (m + 1) = 4 → p ≤ 5 * i → frF [39, 46] [] z z' → (∀ j, j ≠ 11 → j ≠ 14 → z'.1 39 j = z.1 39 j) → z'.1 39 11 = p → z'.1 39 14 = i → (∀ j, j < 3 * i → z'.1 46 j = G j) → rtF (z.1 45) (z.1 39 10) = rdF (chF (z.1 45) (z.1 39 10)) (z.1 39 10) (m + 1) p i G →
        SW 19 [some (vR 39)] z' := by
      intro m
      induction m using Nat.strongRecOn with
      | _ m ih =>
        intro i p z' G hi hp hf hk e11 e14 e46 hr
        have kp := kcF_p (chF (z.1 45) (z.1 39 10)) p
        have e45 := hf.1 45 (by decide)
        have e10 := hk 10 (by decide) (by decide)
        obtain ⟨r, er⟩ : ∃ r, kcF (chF (z.1 45) (z.1 39 10)) p = r := ⟨_, rfl⟩
        simp only [rdF, er] at hr
        rw [er] at kp
        obtain ⟨b, c, k, n, q⟩ := r
        simp only at kp hr
        have cq : chF (z.1 45) (z.1 39 10) q = if (q : Int) < z.1 39 10 then z.1 45 q else 0 := rfl
        have G1 := gdI_lt (k := i) (a := c) (b := k) (c := n) e46
        refine hc 20 _ _ _ fun _ _ => ?_
        simp only [pvSt1]
        simp only [C_X10_isConstraint, C_X10_skips, e11, e45, e10, e14, er, pvE_aload_n0, pvLA_s, pvLd, pvE_iconst, pvE_putfield, pvPf_0, pvPf_1, fX10_101, pvSh_0, pvSh_1, pvSh_2, pvSh_3, pvSh_4, pvSh_5, pvSh_6, pvSh_7, pvSh_8, pvSh_9, pvSh_10, pvSh_11, pvSh_12, pvSh_13, pvSh_14, pvSh_15, pvSh_16, pvSh_17, pvSh_18, pvSh_19, pvSh_20, pvSh_21, pvSh_22, pvSh_23, pvSh_24, pvSh_25, pvSh_26, pvSh_27, pvSh_28, pvSh_29, pvSh_30, pvSh_31, pvSh_32, pvSh_33, pvSh_34, pvSh_35, pvSh_36, pvSh_37, pvSh_38, pvSh_39, pvSh_40, pvSh_41, pvSh_42, pvSh_43, pvSh_44, pvSh_45, pvSh_46, pvSh_47, pvSh_48, pvSh_49, pvSh_50, pvSh_51, pvSh_52, pvSh_53, pvSh_54, pvSh_55, pvSh_56, pvSh_57, pvSh_58, pvSh_59, fX10_117, pvE_getfield, pvGf_0, pvGf_1, pvGf_2, fX10_98, pvRf_0_0, pvRf_0_1, pvRf_0_2, pvRf_0_3, pvRf_0_4, pvRf_0_5, pvRf_0_6, pvRf_0_7, pvRf_0_8, pvRf_0_9, pvRf_0_10, pvRf_1_0, pvRf_3_0, pvRf_5_0, pvRf_5_1, pvRf_5_2, pvRf_9_0, pvRf_9_1, pvRf_9_2, pvRf_13_0, pvRf_13_1, pvRf_13_2, pvRf_17_0, pvRf_17_2, pvRf_20_0, pvRf_20_1, pvRf_20_2, pvRf_24_0, pvRf_24_1, pvRf_24_2, pvRf_28_0, pvRf_28_1, pvRf_28_2, pvRf_28_3, pvRf_33_0, pvRf_33_1, pvRf_36_0, pvRf_36_1, pvRf_39_0, pvRf_39_1, pvRf_39_2, pvRf_39_5, pvRf_39_6, pvRf_39_9, pvRf_39_13, pvRf_39_15, pvRf_39_16, pvRf_39_17, pvRf_39_19, pvRf_39_20, pvRf_39_22, pvRf_39_23, pvRf_39_24, pvRf_39_25, pvRf_39_29, pvRf_39_30, pvE_if_ne, pvE_ireturn, pvE_invokevirtual, pvC1_s, pvC2_s, pvAf_v, pvAf_x, pvPop, pvCs, pvCat, pvPush, aX10_faultOf_120, pvE_icmp_ge, pvE_bipush, aX10_faultOf_108, pvE_goto, bX10_faultOf_0, uX10_faultOf_0, bX10_faultOf_19, uX10_faultOf_19, bX10_faultOf_31, uX10_faultOf_31, bX10_faultOf_48, uX10_faultOf_48, bX10_faultOf_66, uX10_faultOf_66, bX10_faultOf_67, uX10_faultOf_67, pvMk_t, pvMk_f, pvMk_n, pvRecv_r, pvUp_nl, pvUp_same, pvUp_ap, pvSt_ap, pvX_c, pvX_ms, pvX_mn, pvE_nil, pvEn_i, pvEn_r, pvEn_l, pvEn_0, pvEn_s, pvRt, pvRv, pvTh, pvKc, pvGo, pvTgt, Int.toNat_natCast, false_and, and_false, true_and, and_true, if_true, if_false, reduceIte, reduceCtorEq, forall_const, false_or, or_false, true_or, or_true, ne_eq, not_true_eq_false, not_false_eq_true, implies_true, false_implies, Nat.reduceAdd, Nat.reduceSub, Nat.reduceMul, Nat.reduceEqDiff, Nat.reduceLT, Nat.reduceLeDiff, Int.reduceAdd, Int.reduceSub, Int.reduceMul, Int.reduceNeg, Int.reduceToNat, Int.reduceLE, Int.reduceLT, Int.reduceEq, Int.reduceNe, and_self]
        refine ⟨⟨by omega, by omega, by omega, hx⟩, fun z1 f1 k1 q1 => ?_⟩
        have d10 : z1.1 39 10 = z.1 39 10 := by rw [k1 10 (by decide) (by decide), e10]
        have d45 : z1.1 45 = z.1 45 := by rw [f1.1 45 (by decide), e45]
        have d1 : frF [39, 46] [] z z1 := frF_t hf f1 (fun _ h => h) (fun _ h => h)
        have d2 : ∀ j, j ≠ 11 → j ≠ 14 → z1.1 39 j = z.1 39 j := fun j h1 h2 => by rw [k1 j h1 h2, hk j h1 h2]
        refine ⟨fun hb g1 G2 => ?_, fun hb g1 G2 => ?_⟩
        · subst hb
          simp only [if_true, reduceIte] at hr
          have G3 : ∀ j, j < 3 * (i + 1) → z1.1 46 j = gdI G (↑i) c k n j := fun j hj => (G2 j hj).trans (G1 j hj)
          simp only [q1, d10, d45, g1, Int.toNat_natCast]
          have r3 := fun (x : Int) => h2 z1 d1 d2
          by_cases hm : 0 < m ∧ chF (z.1 45) (z.1 39 10) q = 38
          · rw [if_pos hm] at hr
            have ihk := ih (m - 1) (by omega) (i + 1) (q + 1) (pvUp z1.1 39 11 ((q : Int) + 1), z1.2) (gdI G i c k n) (by omega) (by omega) (by (repeat' first | assumption | exact frF_0 | (refine frF_u ?_ (by decide)) | (refine frF_s ?_ (by decide)) | (refine frF_l ?_ (by decide)))) (fun j h1 h2 => by simp only [pvUp_ap, h1, and_false, if_false, reduceIte]; exact d2 j h1 h2) (by simp [pvUp_ap]) (by simp [pvUp_ap, g1]) (fun j hj => by simp only [pvUp_ap]; simpa using G3 j hj) (by rw [hr, show m - 1 + 1 = m by omega])
            (repeat' (first | with_reducible apply And.intro | intro _))
            all_goals first
              | omega
              | contradiction
              | exact ihk
          · rw [if_neg hm] at hr
            have r3 := h2 z1 d1 d2
            rw [hr] at r3
            have r4 := r3 g1 G3
            (repeat' (first | with_reducible apply And.intro | intro _))
            all_goals first
              | omega
              | contradiction
              | (rw [if_pos (by omega)] at r4; exact r4)
              | (rw [if_neg (by omega)] at r4; exact r4)
        · subst hb
          simp only [reduceCtorEq, if_false, reduceIte] at hr
          have r3 := h2 z1 d1 d2
          rw [hr] at r3
          rw [q1]
          exact r3 g1 (fun j hj => (G2 j hj).trans (e46 j hj))
    refine hc 20 _ _ _ fun _ _ => ?_
    simp only [pvSt1]
    simp only [pvE_aload_n0, pvLA_s, pvLd, pvE_iconst, pvE_putfield, pvPf_0, pvPf_1, fX10_101, pvSh_0, pvSh_1, pvSh_2, pvSh_3, pvSh_4, pvSh_5, pvSh_6, pvSh_7, pvSh_8, pvSh_9, pvSh_10, pvSh_11, pvSh_12, pvSh_13, pvSh_14, pvSh_15, pvSh_16, pvSh_17, pvSh_18, pvSh_19, pvSh_20, pvSh_21, pvSh_22, pvSh_23, pvSh_24, pvSh_25, pvSh_26, pvSh_27, pvSh_28, pvSh_29, pvSh_30, pvSh_31, pvSh_32, pvSh_33, pvSh_34, pvSh_35, pvSh_36, pvSh_37, pvSh_38, pvSh_39, pvSh_40, pvSh_41, pvSh_42, pvSh_43, pvSh_44, pvSh_45, pvSh_46, pvSh_47, pvSh_48, pvSh_49, pvSh_50, pvSh_51, pvSh_52, pvSh_53, pvSh_54, pvSh_55, pvSh_56, pvSh_57, pvSh_58, pvSh_59, fX10_117, pvE_getfield, pvGf_0, pvGf_1, pvGf_2, fX10_98, pvRf_0_0, pvRf_0_1, pvRf_0_2, pvRf_0_3, pvRf_0_4, pvRf_0_5, pvRf_0_6, pvRf_0_7, pvRf_0_8, pvRf_0_9, pvRf_0_10, pvRf_1_0, pvRf_3_0, pvRf_5_0, pvRf_5_1, pvRf_5_2, pvRf_9_0, pvRf_9_1, pvRf_9_2, pvRf_13_0, pvRf_13_1, pvRf_13_2, pvRf_17_0, pvRf_17_2, pvRf_20_0, pvRf_20_1, pvRf_20_2, pvRf_24_0, pvRf_24_1, pvRf_24_2, pvRf_28_0, pvRf_28_1, pvRf_28_2, pvRf_28_3, pvRf_33_0, pvRf_33_1, pvRf_36_0, pvRf_36_1, pvRf_39_0, pvRf_39_1, pvRf_39_2, pvRf_39_5, pvRf_39_6, pvRf_39_9, pvRf_39_13, pvRf_39_15, pvRf_39_16, pvRf_39_17, pvRf_39_19, pvRf_39_20, pvRf_39_22, pvRf_39_23, pvRf_39_24, pvRf_39_25, pvRf_39_29, pvRf_39_30, pvE_if_ne, pvE_ireturn, pvE_invokevirtual, pvC1_s, pvC2_s, pvAf_v, pvAf_x, pvPop, pvCs, pvCat, pvPush, aX10_faultOf_120, pvE_icmp_ge, pvE_bipush, aX10_faultOf_108, pvE_goto, bX10_faultOf_0, uX10_faultOf_0, bX10_faultOf_19, uX10_faultOf_19, bX10_faultOf_31, uX10_faultOf_31, bX10_faultOf_48, uX10_faultOf_48, bX10_faultOf_66, uX10_faultOf_66, bX10_faultOf_67, uX10_faultOf_67, pvMk_t, pvMk_f, pvMk_n, pvRecv_r, pvUp_nl, pvUp_same, pvUp_ap, pvSt_ap, pvX_c, pvX_ms, pvX_mn, pvE_nil, pvEn_i, pvEn_r, pvEn_l, pvEn_0, pvEn_s, pvRt, pvRv, pvTh, pvKc, pvGo, pvTgt, Int.toNat_natCast, false_and, and_false, true_and, and_true, if_true, if_false, reduceIte, reduceCtorEq, forall_const, false_or, or_false, true_or, or_true, ne_eq, not_true_eq_false, not_false_eq_true, implies_true, false_implies, Nat.reduceAdd, Nat.reduceSub, Nat.reduceMul, Nat.reduceEqDiff, Nat.reduceLT, Nat.reduceLeDiff, Int.reduceAdd, Int.reduceSub, Int.reduceMul, Int.reduceNeg, Int.reduceToNat, Int.reduceLE, Int.reduceLT, Int.reduceEq, Int.reduceNe, and_self]
    by_cases hn0 : z.1 39 10 = 0
    · have hr : rtF (z.1 45) (z.1 39 10) = (-1, 0, fun _ => 0) := if_pos (by omega)
      rw [hr] at h2
      (repeat' (first | with_reducible apply And.intro | intro _))
      all_goals first
        | omega
        | contradiction
        | (refine h2 _ (by (repeat' first | assumption | exact frF_0 | (refine frF_u ?_ (by decide)) | (refine frF_s ?_ (by decide)) | (refine frF_l ?_ (by decide)))) (fun j _ _ => ?_) ?_ (fun j hj => ?_) <;> simp only [pvUp_ap, Nat.reduceEqDiff, true_and, false_and, if_true, if_false, reduceIte] <;> grind)
    · have hr : rtF (z.1 45) (z.1 39 10) = rdF (chF (z.1 45) (z.1 39 10)) (z.1 39 10) (3 + 1) 0 0 (fun _ => 0) := if_neg (by omega)
      (repeat' (first | with_reducible apply And.intro | intro _))
      all_goals first
        | omega
        | contradiction
        | (refine loop 3 0 0 _ (fun _ => 0) (by omega) (by omega) (by (repeat' first | assumption | exact frF_0 | (refine frF_u ?_ (by decide)) | (refine frF_s ?_ (by decide)) | (refine frF_l ?_ (by decide)))) (fun j _ _ => ?_) ?_ ?_ (fun j hj => by omega) hr <;> simp only [pvUp_ap, Nat.reduceEqDiff, true_and, false_and, if_true, if_false, reduceIte] <;> grind)
  · exact h.elim
