/-- a text read from place p on, k constraints read, m still allowed: the fault, how many constraints, their numbers -/
def rdF (ch : Nat → Int) (n : Int) : Nat → Nat → Nat → (Nat → Int) → Int × Nat × (Nat → Int)
  | 0, p, k, G => (if (p : Int) < n then p else -1, k, G)
  | m + 1, p, k, G =>
    if (kcF ch p).1 = true then
      (if 0 < m ∧ ch (kcF ch p).2.2.2.2 = 38 then rdF ch n m ((kcF ch p).2.2.2.2 + 1) (k + 1) (gdI G k (kcF ch p).2.1 (kcF ch p).2.2.1 (kcF ch p).2.2.2.1)
       else (if ((kcF ch p).2.2.2.2 : Int) < n then ((kcF ch p).2.2.2.2 : Int) else -1, k + 1, gdI G k (kcF ch p).2.1 (kcF ch p).2.2.1 (kcF ch p).2.2.2.1))
    else ((kcF ch p).2.2.2.2, k, G)
def rtF (t : Nat → Int) (n : Int) : Int × Nat × (Nat → Int) := if n ≤ 0 then (-1, 0, fun _ => 0) else rdF (chF t n) n 4 0 0 (fun _ => 0)
theorem kcF_p (ch : Nat → Int) (p : Nat) : p ≤ (kcF ch p).2.2.2.2 ∧ (kcF ch p).2.2.2.2 ≤ p + 4 := by
  unfold kcF kdF
  (repeat' split) <;> constructor <;> simp only <;> omega
theorem gdI_lt {f g : Nat → Int} {k : Nat} {a b c : Int} (h : ∀ j, j < 3 * k → f j = g j) : ∀ j, j < 3 * (k + 1) → gdI f k a b c j = gdI g k a b c j := by
  intro j hj
  unfold gdI
  split
  · rfl
  · split
    · rfl
    · split
      · rfl
      · exact h j (by omega)
def C_X1_read : pvC
  | [.inr (.inr (.inl id))], z, Q => id = 17 ∧ ((0 ≤ z.1 17 1 ∧ z.1 17 1 ≤ 30) ∧ ∀ k : Nat, (k : Int) < z.1 17 1 → 0 ≤ z.1 18 k ∧ z.1 18 k ≤ 126) ∧
      ∀ z' : pvM, frF [17, 19] [] z z' → z'.1 17 1 = 0 → z'.1 17 3 = (rtF (z.1 18) (z.1 17 1)).2.1 → z'.1 17 4 = (rtF (z.1 18) (z.1 17 1)).1 → (∀ j, j < 3 * (rtF (z.1 18) (z.1 17 1)).2.1 → z'.1 19 j = (rtF (z.1 18) (z.1 17 1)).2.2 j) → Q (.inl none) z'
  | _, _, _ => False
def bX1_read : Nat → List (Instr × Nat)
  | 0 => [(.aload_n 0, 1), (.iconst 0, 1), (.putfield 22, 3), (.aload_n 0, 1), (.iconst (-1), 1), (.putfield 25, 3), (.iconst 0, 1), (.istore_n 1, 1), (.aload_n 0, 1), (.getfield 15, 3), (.ifCond .le 7, 3), (.iconst 1, 1), (.goto 4, 3)]
  | 23 => [(.iconst 0, 1)]
  | 24 => [(.istore_n 2, 1), (.iconst 0, 1), (.istore_n 3, 1)]
  | 27 => [(.iload_n 3, 1), (.iconst 4, 1), (.if_icmp .ge 55, 3), (.iload_n 2, 1), (.ifCond .eq 51, 3), (.aload_n 0, 1), (.iload_n 1, 1), (.invokevirtual 32, 3), (.istore_n 1, 1), (.aload_n 0, 1), (.getfield 25, 3), (.iconst (-1), 1), (.if_icmp .ne 22, 3), (.iload_n 3, 1), (.iconst 3, 1), (.if_icmp .ge 17, 3), (.aload_n 0, 1), (.iload_n 1, 1), (.invokevirtual 36, 3), (.bipush 38, 2), (.if_icmp .ne 7, 3), (.iconst 1, 1), (.goto 4, 3)]
  | 69 => [(.iconst 0, 1)]
  | 70 => [(.istore_n 2, 1), (.iload_n 2, 1), (.ifCond .eq 6, 3), (.iinc 1 1, 3)]
  | 78 => [(.iinc 3 1, 3), (.goto (-54), 3)]
  | 84 => [(.aload_n 0, 1), (.getfield 25, 3), (.iconst (-1), 1), (.if_icmp .ne 16, 3), (.iload_n 1, 1), (.aload_n 0, 1), (.getfield 15, 3), (.if_icmp .ge 8, 3), (.aload_n 0, 1), (.iload_n 1, 1), (.putfield 25, 3)]
  | 105 => [(.aload_n 0, 1), (.iconst 0, 1), (.putfield 15, 3), (.return_, 1)]
  | _ => []
def uX1_read : Nat → Option (List Bool)
  | 27 => some [true, true, true, true]
  | _ => none
def aX1_read : pvCa
  | 32 => some (2, false, 1, 0, C_X1_readConstraint)
  | 36 => some (2, false, 1, 0, C_X1_characterAt)
  | _ => none
theorem bX1_read_0 : bX1_read 0 = [(.aload_n 0, 1), (.iconst 0, 1), (.putfield 22, 3), (.aload_n 0, 1), (.iconst (-1), 1), (.putfield 25, 3), (.iconst 0, 1), (.istore_n 1, 1), (.aload_n 0, 1), (.getfield 15, 3), (.ifCond .le 7, 3), (.iconst 1, 1), (.goto 4, 3)] := rfl
theorem uX1_read_0 : uX1_read 0 = none := rfl
theorem bX1_read_23 : bX1_read 23 = [(.iconst 0, 1)] := rfl
theorem uX1_read_23 : uX1_read 23 = none := rfl
theorem bX1_read_24 : bX1_read 24 = [(.istore_n 2, 1), (.iconst 0, 1), (.istore_n 3, 1)] := rfl
theorem uX1_read_24 : uX1_read 24 = none := rfl
theorem bX1_read_27 : bX1_read 27 = [(.iload_n 3, 1), (.iconst 4, 1), (.if_icmp .ge 55, 3), (.iload_n 2, 1), (.ifCond .eq 51, 3), (.aload_n 0, 1), (.iload_n 1, 1), (.invokevirtual 32, 3), (.istore_n 1, 1), (.aload_n 0, 1), (.getfield 25, 3), (.iconst (-1), 1), (.if_icmp .ne 22, 3), (.iload_n 3, 1), (.iconst 3, 1), (.if_icmp .ge 17, 3), (.aload_n 0, 1), (.iload_n 1, 1), (.invokevirtual 36, 3), (.bipush 38, 2), (.if_icmp .ne 7, 3), (.iconst 1, 1), (.goto 4, 3)] := rfl
theorem uX1_read_27 : uX1_read 27 = some [true, true, true, true] := rfl
theorem bX1_read_69 : bX1_read 69 = [(.iconst 0, 1)] := rfl
theorem uX1_read_69 : uX1_read 69 = none := rfl
theorem bX1_read_70 : bX1_read 70 = [(.istore_n 2, 1), (.iload_n 2, 1), (.ifCond .eq 6, 3), (.iinc 1 1, 3)] := rfl
theorem uX1_read_70 : uX1_read 70 = none := rfl
theorem bX1_read_78 : bX1_read 78 = [(.iinc 3 1, 3), (.goto (-54), 3)] := rfl
theorem uX1_read_78 : uX1_read 78 = none := rfl
theorem bX1_read_84 : bX1_read 84 = [(.aload_n 0, 1), (.getfield 25, 3), (.iconst (-1), 1), (.if_icmp .ne 16, 3), (.iload_n 1, 1), (.aload_n 0, 1), (.getfield 15, 3), (.if_icmp .ge 8, 3), (.aload_n 0, 1), (.iload_n 1, 1), (.putfield 25, 3)] := rfl
theorem uX1_read_84 : uX1_read 84 = none := rfl
theorem bX1_read_105 : bX1_read 105 = [(.aload_n 0, 1), (.iconst 0, 1), (.putfield 15, 3), (.return_, 1)] := rfl
theorem uX1_read_105 : uX1_read 105 = none := rfl
theorem aX1_read_32 : aX1_read 32 = some (2, false, 1, 0, C_X1_readConstraint) := rfl
theorem aX1_read_36 : aX1_read 36 = some (2, false, 1, 0, C_X1_characterAt) := rfl
set_option maxRecDepth 100000 in
set_option maxHeartbeats 4000000 in
theorem okX1_read : pvOkM fX1 aX1_read kX1 eX1 none bX1_read uX1_read 4 C_X1_read := by
  intro Q SW hc as z h hS hz
  unfold C_X1_read at h
  split at h
  · rename_i id
    obtain ⟨rfl, ⟨hl, hx⟩, h2⟩ := h
    refine ⟨Nat.le_of_ble_eq_true rfl, ?_⟩
    have fin : ∀ (z' : pvM) (at' : Nat) (i : Int), frF [17, 19] [] z z' → z'.1 17 1 = z.1 17 1 → at' ≤ 100 →
        (rtF (z.1 18) (z.1 17 1)).1 = (if z'.1 17 4 = -1 ∧ (at' : Int) < z.1 17 1 then (at' : Int) else z'.1 17 4) → z'.1 17 3 = (rtF (z.1 18) (z.1 17 1)).2.1 → (∀ j, j < 3 * (rtF (z.1 18) (z.1 17 1)).2.1 → z'.1 19 j = (rtF (z.1 18) (z.1 17 1)).2.2 j) →
        -10 ≤ i ∧ i ≤ 10 → SW 27 [some (vR 17), some (vI (at' : Int)), some (vI 0), some (vI i)] z' := by
      intro z' at' i hf e1 hat e4 e3 e9 hi
      refine hc 20 _ _ _ fun _ _ => ?_
      clear hc
      simp only [pvSt1]
      simp only [C_X1_readConstraint, C_X1_characterAt, e1, pvE_aload_n0, pvLA_s, pvLd, pvE_iconst, pvE_putfield, pvPf_0, pvPf_1, fX1_22, pvSh_0, pvSh_1, pvSh_2, pvSh_3, pvSh_4, pvSh_5, pvSh_6, pvSh_7, pvSh_8, pvSh_9, pvSh_10, pvSh_11, pvSh_12, pvSh_13, pvSh_14, pvSh_15, pvSh_16, pvSh_17, pvSh_18, pvSh_19, pvSh_20, pvSh_21, pvSh_22, pvSh_23, pvSh_24, pvSh_25, pvSh_26, pvSh_27, pvSh_28, pvSh_29, pvSh_30, pvSh_31, pvSh_32, pvSh_33, pvSh_34, pvSh_35, pvSh_36, pvSh_37, pvSh_38, fX1_25, pvE_istore_n1, pvS1, List.length_cons, List.length_nil, pvClr_i, pvClr_r, pvClr_l, pvClr_d, pvClr_f, pvClr_n, pvE_getfield, pvGf_0, pvGf_1, pvGf_2, fX1_15, pvRf_0_0, pvRf_0_1, pvRf_0_2, pvRf_0_3, pvRf_0_4, pvRf_0_5, pvRf_0_6, pvRf_0_7, pvRf_0_8, pvRf_0_9, pvRf_0_10, pvRf_1_0, pvRf_3_0, pvRf_5_0, pvRf_5_1, pvRf_5_2, pvRf_9_0, pvRf_9_1, pvRf_9_2, pvRf_13_0, pvRf_13_1, pvRf_13_2, pvRf_17_0, pvRf_17_2, pvRf_20_0, pvRf_20_1, pvRf_20_2, pvRf_24_0, pvRf_24_1, pvRf_24_2, pvRf_28_0, pvRf_28_1, pvRf_28_2, pvRf_28_3, pvRf_33_0, pvRf_33_1, pvRf_36_0, pvRf_36_1, pvE_if_le, pvE_goto, pvE_istore_n2, pvE_istore_n3, pvE_iload_n3, pvLI_s, pvE_icmp_ge, pvE_iload_n2, pvE_if_eq, pvE_iload_n1, pvE_invokevirtual, pvC1_s, pvC2_s, pvAf_v, pvAf_x, pvPop, pvCs, pvCat, pvPush, aX1_read_32, pvE_icmp_ne, aX1_read_36, pvE_bipush, pvE_iinc, pvIc_s, pvE_return, bX1_read_0, uX1_read_0, bX1_read_23, uX1_read_23, bX1_read_24, uX1_read_24, bX1_read_27, uX1_read_27, bX1_read_69, uX1_read_69, bX1_read_70, uX1_read_70, bX1_read_78, uX1_read_78, bX1_read_84, uX1_read_84, bX1_read_105, uX1_read_105, pvMk_t, pvMk_f, pvMk_n, pvRtG, pvRecv_r, pvUp_nl, pvUp_same, pvUp_ap, pvSt_ap, pvX_c, pvX_ms, pvX_mn, pvE_nil, pvEn_i, pvEn_r, pvEn_l, pvEn_0, pvEn_s, pvRt, pvRv, pvTh, pvKc, pvGo, pvTgt, Int.toNat_natCast, false_and, and_false, true_and, and_true, if_true, if_false, reduceIte, reduceCtorEq, forall_const, false_or, or_false, true_or, or_true, ne_eq, not_true_eq_false, not_false_eq_true, implies_true, false_implies, Nat.reduceAdd, Nat.reduceSub, Nat.reduceMul, Nat.reduceEqDiff, Nat.reduceLT, Nat.reduceLeDiff, Int.reduceAdd, Int.reduceSub, Int.reduceMul, Int.reduceNeg, Int.reduceToNat, Int.reduceLE, Int.reduceLT, Int.reduceEq, Int.reduceNe, and_self]
      (repeat' (first | with_reducible apply And.intro | intro _))
      all_goals first
        | omega
        | exact absurd rfl (by assumption)
        | (refine h2 _ (by (repeat' first | assumption | exact frF_0 | (refine frF_u ?_ (by decide)) | (refine frF_s ?_ (by decide)) | (refine frF_l ?_ (by decide)))) ?_ ?_ ?_ (fun j hj => ?_) <;> simp only [pvUp_ap, Nat.reduceEqDiff, true_and, false_and, if_true, if_false, reduceIte] <;> first | omega | exact e9 j hj | (rw [e4]; grind))
    have loop : ∀ (m i p : Nat) (z' : pvM) (G : Nat → Int), i + (m + 1) = 4 → p ≤ 5 * i → frF [17, 19] [] z z' → z'.1 17 1 = z.1 17 1 → z'.1 17 4 = -1 → z'.1 17 3 = i → (∀ j, j < 3 * i → z'.1 19 j = G j) → rtF (z.1 18) (z.1 17 1) = rdF (chF (z.1 18) (z.1 17 1)) (z.1 17 1) (m + 1) p i G →
        SW 27 [some (vR 17), some (vI (p : Int)), some (vI 1), some (vI (i : Int))] z' := by
      intro m
      induction m using Nat.strongRecOn with
      | _ m ih =>
        intro i p z' G hi hp hf e1 e4 e3 e9 hr
        have kp := kcF_p (chF (z.1 18) (z.1 17 1)) p
        have e18 := hf.1 18 (by decide)
        have cp := chF_eq (t := z.1 18) (n := z.1 17 1) (a := ((kcF (chF (z.1 18) (z.1 17 1)) p).2.2.2.2 : Int)) (by omega)
        rw [Int.toNat_natCast] at cp
        obtain ⟨r, er⟩ : ∃ r, kcF (chF (z.1 18) (z.1 17 1)) p = r := ⟨_, rfl⟩
        simp only [rdF, er] at hr
        rw [er] at kp cp
        obtain ⟨b, c, k, n, q⟩ := r
        simp only at kp cp hr
        refine hc 20 _ _ _ fun _ _ => ?_
        simp only [pvSt1]
        simp only [C_X1_readConstraint, C_X1_characterAt, e1, e18, er, cp, pvE_aload_n0, pvLA_s, pvLd, pvE_iconst, pvE_putfield, pvPf_0, pvPf_1, fX1_22, pvSh_0, pvSh_1, pvSh_2, pvSh_3, pvSh_4, pvSh_5, pvSh_6, pvSh_7, pvSh_8, pvSh_9, pvSh_10, pvSh_11, pvSh_12, pvSh_13, pvSh_14, pvSh_15, pvSh_16, pvSh_17, pvSh_18, pvSh_19, pvSh_20, pvSh_21, pvSh_22, pvSh_23, pvSh_24, pvSh_25, pvSh_26, pvSh_27, pvSh_28, pvSh_29, pvSh_30, pvSh_31, pvSh_32, pvSh_33, pvSh_34, pvSh_35, pvSh_36, pvSh_37, pvSh_38, fX1_25, pvE_istore_n1, pvS1, List.length_cons, List.length_nil, pvClr_i, pvClr_r, pvClr_l, pvClr_d, pvClr_f, pvClr_n, pvE_getfield, pvGf_0, pvGf_1, pvGf_2, fX1_15, pvRf_0_0, pvRf_0_1, pvRf_0_2, pvRf_0_3, pvRf_0_4, pvRf_0_5, pvRf_0_6, pvRf_0_7, pvRf_0_8, pvRf_0_9, pvRf_0_10, pvRf_1_0, pvRf_3_0, pvRf_5_0, pvRf_5_1, pvRf_5_2, pvRf_9_0, pvRf_9_1, pvRf_9_2, pvRf_13_0, pvRf_13_1, pvRf_13_2, pvRf_17_0, pvRf_17_2, pvRf_20_0, pvRf_20_1, pvRf_20_2, pvRf_24_0, pvRf_24_1, pvRf_24_2, pvRf_28_0, pvRf_28_1, pvRf_28_2, pvRf_28_3, pvRf_33_0, pvRf_33_1, pvRf_36_0, pvRf_36_1, pvE_if_le, pvE_goto, pvE_istore_n2, pvE_istore_n3, pvE_iload_n3, pvLI_s, pvE_icmp_ge, pvE_iload_n2, pvE_if_eq, pvE_iload_n1, pvE_invokevirtual, pvC1_s, pvC2_s, pvAf_v, pvAf_x, pvPop, pvCs, pvCat, pvPush, aX1_read_32, pvE_icmp_ne, aX1_read_36, pvE_bipush, pvE_iinc, pvIc_s, pvE_return, bX1_read_0, uX1_read_0, bX1_read_23, uX1_read_23, bX1_read_24, uX1_read_24, bX1_read_27, uX1_read_27, bX1_read_69, uX1_read_69, bX1_read_70, uX1_read_70, bX1_read_78, uX1_read_78, bX1_read_84, uX1_read_84, bX1_read_105, uX1_read_105, pvMk_t, pvMk_f, pvMk_n, pvRtG, pvRecv_r, pvUp_nl, pvUp_same, pvUp_ap, pvSt_ap, pvX_c, pvX_ms, pvX_mn, pvE_nil, pvEn_i, pvEn_r, pvEn_l, pvEn_0, pvEn_s, pvRt, pvRv, pvTh, pvKc, pvGo, pvTgt, Int.toNat_natCast, false_and, and_false, true_and, and_true, if_true, if_false, reduceIte, reduceCtorEq, forall_const, false_or, or_false, true_or, or_true, ne_eq, not_true_eq_false, not_false_eq_true, implies_true, false_implies, Nat.reduceAdd, Nat.reduceSub, Nat.reduceMul, Nat.reduceEqDiff, Nat.reduceLT, Nat.reduceLeDiff, Int.reduceAdd, Int.reduceSub, Int.reduceMul, Int.reduceNeg, Int.reduceToNat, Int.reduceLE, Int.reduceLT, Int.reduceEq, Int.reduceNe, and_self]
        have G1 := gdI_lt (k := i) (a := c) (b := k) (c := n) e9
        rw [← e3] at G1
        cases b
        · simp only [reduceCtorEq, if_false, reduceIte] at hr
          (repeat' (first | with_reducible apply And.intro | intro _))
          all_goals first
            | omega
            | exact (hx _ (by assumption)).1
            | exact (hx _ (by assumption)).2
            | exact absurd rfl (by assumption)
            | contradiction
            | (exfalso; revert e4; simp only [pvUp_ap, pvSt_ap]; omega)
            | (refine fin _ q ((i : Int) + 1) (by (repeat' first | assumption | exact frF_0 | (refine frF_u ?_ (by decide)) | (refine frF_s ?_ (by decide)) | (refine frF_l ?_ (by decide)))) ?_ (by omega) ?_ ?_ (fun j hj => ?_) (by omega) <;> simp only [hr, pvUp_ap, pvSt_ap, Nat.reduceEqDiff, true_and, false_and, if_true, if_false, reduceIte] at * <;> first | omega | assumption | exact e9 j (by omega) | grind)
        · simp only [if_true, reduceIte] at hr
          by_cases hm : 0 < m ∧ chF (z.1 18) (z.1 17 1) q = 38
          · rw [if_pos hm] at hr
            have ihk := ih (m - 1) (by omega) (i + 1) (q + 1) (pvUp (pvSt z'.1 19 (gdI (z'.1 19) (z'.1 17 3) c k n)) 17 3 (z'.1 17 3 + 1), z'.2) (gdI G i c k n) (by omega) (by omega) (by (repeat' first | assumption | exact frF_0 | (refine frF_u ?_ (by decide)) | (refine frF_s ?_ (by decide)) | (refine frF_l ?_ (by decide)))) (by simp only [pvUp_ap, pvSt_ap]; simpa using e1) (by simp only [pvUp_ap, pvSt_ap]; simpa using e4) (by simp only [pvUp_ap, pvSt_ap]; simp; omega) (fun j hj => by simp only [pvUp_ap, pvSt_ap]; simpa [e3] using G1 j hj) (by rw [hr, show m - 1 + 1 = m by omega])
            (repeat' (first | with_reducible apply And.intro | intro _))
            all_goals first
              | omega
              | exact (hx _ (by assumption)).1
              | exact (hx _ (by assumption)).2
              | exact absurd rfl (by assumption)
              | contradiction
              | exact ihk
              | (exfalso; simp only [pvUp_ap, pvSt_ap] at *; simp at *; omega)
          · rw [if_neg hm] at hr
            (repeat' (first | with_reducible apply And.intro | intro _))
            all_goals first
              | omega
              | exact (hx _ (by assumption)).1
              | exact (hx _ (by assumption)).2
              | exact absurd rfl (by assumption)
              | contradiction
              | (refine fin _ q ((i : Int) + 1) (by (repeat' first | assumption | exact frF_0 | (refine frF_u ?_ (by decide)) | (refine frF_s ?_ (by decide)) | (refine frF_l ?_ (by decide)))) ?_ (by omega) ?_ ?_ (fun j hj => ?_) (by omega) <;> simp only [hr, pvUp_ap, pvSt_ap, Nat.reduceEqDiff, true_and, false_and, if_true, if_false, reduceIte] at * <;> first | omega | assumption | exact G1 j hj | grind)
    refine hc 20 _ _ _ fun _ _ => ?_
    simp only [pvSt1]
    simp only [pvE_aload_n0, pvLA_s, pvLd, pvE_iconst, pvE_putfield, pvPf_0, pvPf_1, fX1_22, pvSh_0, pvSh_1, pvSh_2, pvSh_3, pvSh_4, pvSh_5, pvSh_6, pvSh_7, pvSh_8, pvSh_9, pvSh_10, pvSh_11, pvSh_12, pvSh_13, pvSh_14, pvSh_15, pvSh_16, pvSh_17, pvSh_18, pvSh_19, pvSh_20, pvSh_21, pvSh_22, pvSh_23, pvSh_24, pvSh_25, pvSh_26, pvSh_27, pvSh_28, pvSh_29, pvSh_30, pvSh_31, pvSh_32, pvSh_33, pvSh_34, pvSh_35, pvSh_36, pvSh_37, pvSh_38, fX1_25, pvE_istore_n1, pvS1, List.length_cons, List.length_nil, pvClr_i, pvClr_r, pvClr_l, pvClr_d, pvClr_f, pvClr_n, pvE_getfield, pvGf_0, pvGf_1, pvGf_2, fX1_15, pvRf_0_0, pvRf_0_1, pvRf_0_2, pvRf_0_3, pvRf_0_4, pvRf_0_5, pvRf_0_6, pvRf_0_7, pvRf_0_8, pvRf_0_9, pvRf_0_10, pvRf_1_0, pvRf_3_0, pvRf_5_0, pvRf_5_1, pvRf_5_2, pvRf_9_0, pvRf_9_1, pvRf_9_2, pvRf_13_0, pvRf_13_1, pvRf_13_2, pvRf_17_0, pvRf_17_2, pvRf_20_0, pvRf_20_1, pvRf_20_2, pvRf_24_0, pvRf_24_1, pvRf_24_2, pvRf_28_0, pvRf_28_1, pvRf_28_2, pvRf_28_3, pvRf_33_0, pvRf_33_1, pvRf_36_0, pvRf_36_1, pvE_if_le, pvE_goto, pvE_istore_n2, pvE_istore_n3, pvE_iload_n3, pvLI_s, pvE_icmp_ge, pvE_iload_n2, pvE_if_eq, pvE_iload_n1, pvE_invokevirtual, pvC1_s, pvC2_s, pvAf_v, pvAf_x, pvPop, pvCs, pvCat, pvPush, aX1_read_32, pvE_icmp_ne, aX1_read_36, pvE_bipush, pvE_iinc, pvIc_s, pvE_return, bX1_read_0, uX1_read_0, bX1_read_23, uX1_read_23, bX1_read_24, uX1_read_24, bX1_read_27, uX1_read_27, bX1_read_69, uX1_read_69, bX1_read_70, uX1_read_70, bX1_read_78, uX1_read_78, bX1_read_84, uX1_read_84, bX1_read_105, uX1_read_105, pvMk_t, pvMk_f, pvMk_n, pvRtG, pvRecv_r, pvUp_nl, pvUp_same, pvUp_ap, pvSt_ap, pvX_c, pvX_ms, pvX_mn, pvE_nil, pvEn_i, pvEn_r, pvEn_l, pvEn_0, pvEn_s, pvRt, pvRv, pvTh, pvKc, pvGo, pvTgt, Int.toNat_natCast, false_and, and_false, true_and, and_true, if_true, if_false, reduceIte, reduceCtorEq, forall_const, false_or, or_false, true_or, or_true, ne_eq, not_true_eq_false, not_false_eq_true, implies_true, false_implies, Nat.reduceAdd, Nat.reduceSub, Nat.reduceMul, Nat.reduceEqDiff, Nat.reduceLT, Nat.reduceLeDiff, Int.reduceAdd, Int.reduceSub, Int.reduceMul, Int.reduceNeg, Int.reduceToNat, Int.reduceLE, Int.reduceLT, Int.reduceEq, Int.reduceNe, and_self]
    by_cases hn : z.1 17 1 ≤ 0
    · have hr : rtF (z.1 18) (z.1 17 1) = (-1, 0, fun _ => 0) := if_pos hn
      (repeat' (first | with_reducible apply And.intro | intro _))
      all_goals first
        | omega
        | (refine fin _ 0 0 (by (repeat' first | assumption | exact frF_0 | (refine frF_u ?_ (by decide)) | (refine frF_s ?_ (by decide)) | (refine frF_l ?_ (by decide)))) ?_ (by omega) ?_ ?_ (fun j hj => ?_) (by omega) <;> simp only [hr, pvUp_ap, Nat.reduceEqDiff, true_and, false_and, if_true, if_false, reduceIte] at * <;> first | omega | grind)
    · have hr : rtF (z.1 18) (z.1 17 1) = rdF (chF (z.1 18) (z.1 17 1)) (z.1 17 1) (3 + 1) 0 0 (fun _ => 0) := if_neg hn
      (repeat' (first | with_reducible apply And.intro | intro _))
      all_goals first
        | omega
        | (refine loop 3 0 0 _ (fun _ => 0) (by omega) (by omega) (by (repeat' first | assumption | exact frF_0 | (refine frF_u ?_ (by decide)) | (refine frF_s ?_ (by decide)) | (refine frF_l ?_ (by decide)))) ?_ ?_ ?_ (fun j hj => by omega) hr <;> simp only [pvUp_ap, Nat.reduceEqDiff, true_and, false_and, if_true, if_false, reduceIte] <;> first | omega | rfl)
  · exact h.elim

