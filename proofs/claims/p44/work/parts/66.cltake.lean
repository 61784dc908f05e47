theorem sa_lq {A B : Aut} {z : pvM} {Qs : List Int} {J j i : Nat} (h : saP A B z Qs J) (hj : j + 1 < J) (hj11 : j + 1 ≤ 11) (hi : i < Qs.length) : lqF A B j (ndF Qs i) ↔ z.1 32 j ≤ i ∧ (i : Int) < z.1 32 (j + 1) := by
  obtain ⟨-, a⟩ := h j (by omega) (by omega)
  obtain ⟨-, b⟩ := h (j + 1) hj hj11
  rw [b i hi]
  constructor
  · rintro ⟨h1, h2⟩
    refine ⟨?_, j, by omega, h1⟩
    have := mt (a i hi).mp (fun ⟨n, n1, n2⟩ => h2 n n1 n2)
    omega
  · rintro ⟨h1, n, n1, n2⟩
    have hno : ¬ ∃ n, n < j ∧ rcK A B n (ndF Qs i) := fun h9 => by have := (a i hi).mpr h9; omega
    have en : n = j := by
      by_cases e : n < j
      · exact absurd ⟨n, e, n2⟩ hno
      · omega
    subst en
    exact ⟨n2, fun m hm hr => hno ⟨m, hm, hr⟩⟩
/-- the costs of all levels are laid -/
def cqP (A B : Aut) (z : pvM) (Qs : List Int) (F : Nat) : Prop := ∀ i m, i < Qs.length → m ≤ F → lqF A B (F - m) (ndF Qs i) → z.1 31 i = coK A B F m (ndF Qs i)
def C_X5_findCosts : pvC
  | [.inr (.inr (.inl id)), .inr (.inr (.inl p)), .inr (.inr (.inl q)), .inl F], z, Q => id = 28 ∧ ∃ (A B : Aut) (Qs : List Int), (quF z Qs ∧ psS z p A ∧ psS z q B ∧ (0 ≤ F ∧ F ≤ 10) ∧ saP A B z Qs (F.toNat + 2) ∧ ∀ c, c ∈ Qs ↔ ∃ n, n ≤ F.toNat ∧ rcK A B n c) ∧
      ∀ z' : pvM, frF [31] [] z z' → cqP A B z' Qs F.toNat → Q (.inl none) z'
  | _, _, _ => False
def bX5_findCosts : Nat → List (Instr × Nat)
  | 0 => [(.aload_n 0, 1), (.iload_n 3, 1), (.invokevirtual 99, 3), (.istore 4, 2)]
  | 7 => [(.iload 4, 2), (.aload_n 0, 1), (.iload_n 3, 1), (.iconst 1, 1), (.iadd, 1), (.invokevirtual 99, 3), (.if_icmp .ge 45, 3), (.iload 4, 2), (.sipush 23552, 3), (.if_icmp .ge 37, 3), (.aload_n 0, 1), (.getfield 18, 3), (.iload 4, 2), (.aload_n 1, 1), (.aload_n 2, 1), (.aload_n 0, 1), (.iload 4, 2), (.invokevirtual 67, 3), (.invokestatic 85, 3), (.ifCond .eq 7, 3), (.iconst 0, 1), (.goto 6, 3)]
  | 51 => [(.sipush 1000, 3)]
  | 54 => [(.iastore, 1), (.iinc 4 1, 3), (.goto (-51), 3)]
  | 61 => [(.iload_n 3, 1), (.iconst 1, 1), (.isub, 1), (.istore 4, 2)]
  | 66 => [(.iload 4, 2), (.ifCond .lt 67, 3), (.aload_n 0, 1), (.iload 4, 2), (.invokevirtual 99, 3), (.istore 5, 2)]
  | 79 => [(.iload 5, 2), (.aload_n 0, 1), (.iload 4, 2), (.iconst 1, 1), (.iadd, 1), (.invokevirtual 99, 3), (.if_icmp .ge 40, 3), (.iload 5, 2), (.sipush 23552, 3), (.if_icmp .ge 32, 3), (.aload_n 0, 1), (.getfield 18, 3), (.iload 5, 2), (.aload_n 0, 1), (.aload_n 1, 1), (.aload_n 2, 1), (.iload 5, 2), (.aload_n 0, 1), (.iload 4, 2), (.iconst 1, 1), (.iadd, 1), (.invokevirtual 99, 3), (.invokevirtual 102, 3), (.iastore, 1), (.iinc 5 1, 3), (.goto (-47), 3)]
  | 129 => [(.iinc 4 (-1), 3), (.goto (-66), 3)]
  | 135 => [(.return_, 1)]
  | _ => []
def uX5_findCosts : Nat → Option (List Bool)
  | 7 => some [true, true, true, true, true, false]
  | 66 => some [true, true, true, false, true, false]
  | 79 => some [true, true, true, false, true, true]
  | _ => none
def aX5_findCosts : pvCa
  | 67 => some (2, false, 5, 0, C_X5_configurationAt)
  | 85 => some (3, true, 0, 0, C_X5_isGoal)
  | 99 => some (2, false, 5, 0, C_X5_startOf)
  | 102 => some (5, false, 5, 0, C_X5_leastCost)
  | _ => none
theorem bX5_findCosts_0 : bX5_findCosts 0 = [(.aload_n 0, 1), (.iload_n 3, 1), (.invokevirtual 99, 3), (.istore 4, 2)] := rfl
theorem uX5_findCosts_0 : uX5_findCosts 0 = none := rfl
theorem bX5_findCosts_7 : bX5_findCosts 7 = [(.iload 4, 2), (.aload_n 0, 1), (.iload_n 3, 1), (.iconst 1, 1), (.iadd, 1), (.invokevirtual 99, 3), (.if_icmp .ge 45, 3), (.iload 4, 2), (.sipush 23552, 3), (.if_icmp .ge 37, 3), (.aload_n 0, 1), (.getfield 18, 3), (.iload 4, 2), (.aload_n 1, 1), (.aload_n 2, 1), (.aload_n 0, 1), (.iload 4, 2), (.invokevirtual 67, 3), (.invokestatic 85, 3), (.ifCond .eq 7, 3), (.iconst 0, 1), (.goto 6, 3)] := rfl
theorem uX5_findCosts_7 : uX5_findCosts 7 = some [true, true, true, true, true, false] := rfl
theorem bX5_findCosts_51 : bX5_findCosts 51 = [(.sipush 1000, 3)] := rfl
theorem uX5_findCosts_51 : uX5_findCosts 51 = none := rfl
theorem bX5_findCosts_54 : bX5_findCosts 54 = [(.iastore, 1), (.iinc 4 1, 3), (.goto (-51), 3)] := rfl
theorem uX5_findCosts_54 : uX5_findCosts 54 = none := rfl
theorem bX5_findCosts_61 : bX5_findCosts 61 = [(.iload_n 3, 1), (.iconst 1, 1), (.isub, 1), (.istore 4, 2)] := rfl
theorem uX5_findCosts_61 : uX5_findCosts 61 = none := rfl
theorem bX5_findCosts_66 : bX5_findCosts 66 = [(.iload 4, 2), (.ifCond .lt 67, 3), (.aload_n 0, 1), (.iload 4, 2), (.invokevirtual 99, 3), (.istore 5, 2)] := rfl
theorem uX5_findCosts_66 : uX5_findCosts 66 = some [true, true, true, false, true, false] := rfl
theorem bX5_findCosts_79 : bX5_findCosts 79 = [(.iload 5, 2), (.aload_n 0, 1), (.iload 4, 2), (.iconst 1, 1), (.iadd, 1), (.invokevirtual 99, 3), (.if_icmp .ge 40, 3), (.iload 5, 2), (.sipush 23552, 3), (.if_icmp .ge 32, 3), (.aload_n 0, 1), (.getfield 18, 3), (.iload 5, 2), (.aload_n 0, 1), (.aload_n 1, 1), (.aload_n 2, 1), (.iload 5, 2), (.aload_n 0, 1), (.iload 4, 2), (.iconst 1, 1), (.iadd, 1), (.invokevirtual 99, 3), (.invokevirtual 102, 3), (.iastore, 1), (.iinc 5 1, 3), (.goto (-47), 3)] := rfl
theorem uX5_findCosts_79 : uX5_findCosts 79 = some [true, true, true, false, true, true] := rfl
theorem bX5_findCosts_129 : bX5_findCosts 129 = [(.iinc 4 (-1), 3), (.goto (-66), 3)] := rfl
theorem uX5_findCosts_129 : uX5_findCosts 129 = none := rfl
theorem bX5_findCosts_135 : bX5_findCosts 135 = [(.return_, 1)] := rfl
theorem uX5_findCosts_135 : uX5_findCosts 135 = none := rfl
theorem aX5_findCosts_67 : aX5_findCosts 67 = some (2, false, 5, 0, C_X5_configurationAt) := rfl
theorem aX5_findCosts_85 : aX5_findCosts 85 = some (3, true, 0, 0, C_X5_isGoal) := rfl
theorem aX5_findCosts_99 : aX5_findCosts 99 = some (2, false, 5, 0, C_X5_startOf) := rfl
theorem aX5_findCosts_102 : aX5_findCosts 102 = some (5, false, 5, 0, C_X5_leastCost) := rfl
set_option maxRecDepth 100000 in
set_option maxHeartbeats 4000000 in
theorem okX5_findCosts : pvOkM fX5 aX5_findCosts kX5 eX5 none bX5_findCosts uX5_findCosts 6 C_X5_findCosts := by
  intro Q SW hc as z h hS hz
  unfold C_X5_findCosts at h
  split at h
  · rename_i id p q F
    obtain ⟨rfl, A, B, Qs, ⟨hq, hA, hB, hF, hs, ha⟩, h2⟩ := h
    obtain ⟨F, rfl⟩ : ∃ n : Nat, F = n := ⟨F.toNat, by omega⟩
    rw [Int.toNat_natCast] at hs ha h2
    have hlen := qu_len hq.2.2.2.1 hq.2.2.2.2
    have hid1 := hA.1
    have hid2 := hB.1
    have wA := hA.2.2.2.2
    have wB := hB.2.2.2.2
    refine ⟨Nat.le_of_ble_eq_true rfl, ?_⟩
    have n1 : ((F : Int) + 1).toNat = F + 1 := by omega
    have hq' : ∀ z', frF [31] [] z z' → quF z' Qs := fun z' f1 => by unfold quF; rw [f1.1 28 (by decide), f1.1 29 (by decide), f1.1 30 (by decide)]; exact hq
    have levels : ∀ (l : Nat) (z' : pvM), l ≤ F → frF [31] [] z z' → (∀ i m, i < Qs.length → m ≤ F → l ≤ F - m → lqF A B (F - m) (ndF Qs i) → z'.1 31 i = coK A B F m (ndF Qs i)) →
        SW 66 [some (vR 28), some (vR p), some (vR q), none, some (vI ((l : Int) - 1)), none] z' := by
      intro l
      induction l with
      | zero =>
        intro z' _ f1 o1
        have q9 := h2 z' f1 (fun i m hi hm hl => o1 i m hi hm (Nat.zero_le _) hl)
        refine hc 20 _ _ _ fun _ _ => ?_
        simp only [pvSt1]
        simp only [C_X5_startOf, pvE_aload_n0, pvLA_s, pvLd, pvE_iload_n3, pvLI_s, pvE_invokevirtual, pvC1_s, pvC2_s, pvAf_v, pvAf_x, pvPop, pvCs, pvCat, pvPush, aX5_findCosts_99, pvSh_0, pvSh_1, pvSh_2, pvSh_3, pvSh_4, pvSh_5, pvSh_6, pvSh_7, pvSh_8, pvSh_9, pvSh_10, pvSh_11, pvSh_12, pvSh_13, pvSh_14, pvSh_15, pvSh_16, pvSh_17, pvSh_18, pvSh_19, pvSh_20, pvSh_21, pvSh_22, pvSh_23, pvSh_24, pvSh_25, pvSh_26, pvSh_27, pvSh_28, pvSh_29, pvSh_30, pvSh_31, pvSh_32, pvSh_33, pvSh_34, pvSh_35, pvSh_36, pvSh_37, pvSh_38, pvE_istore, pvS1, List.length_cons, List.length_nil, pvClr_i, pvClr_r, pvClr_l, pvClr_d, pvClr_f, pvClr_n, pvE_iload, pvE_iconst, pvE_iadd, pvE_icmp_ge, pvE_sipush, pvE_getfield, pvGf_0, pvGf_1, pvGf_2, fX5_18, pvRf_0_0, pvRf_0_1, pvRf_0_2, pvRf_0_3, pvRf_0_4, pvRf_0_5, pvRf_0_6, pvRf_0_7, pvRf_0_8, pvRf_0_9, pvRf_0_10, pvRf_1_0, pvRf_3_0, pvRf_5_0, pvRf_5_1, pvRf_5_2, pvRf_9_0, pvRf_9_1, pvRf_9_2, pvRf_13_0, pvRf_13_1, pvRf_13_2, pvRf_17_0, pvRf_17_2, pvRf_20_0, pvRf_20_1, pvRf_20_2, pvRf_24_0, pvRf_24_1, pvRf_24_2, pvRf_28_0, pvRf_28_1, pvRf_28_2, pvRf_28_3, pvRf_33_0, pvRf_33_1, pvRf_36_0, pvRf_36_1, pvE_aload_n1, pvE_aload_n2, aX5_findCosts_67, pvE_invokestatic (h0 := eX5_85), aX5_findCosts_85, pvE_if_eq, pvE_goto, pvE_iastore, pvAI, pvE_iinc, pvIc_s, pvE_isub, pvE_if_lt, aX5_findCosts_102, pvE_return, bX5_findCosts_0, uX5_findCosts_0, bX5_findCosts_7, uX5_findCosts_7, bX5_findCosts_51, uX5_findCosts_51, bX5_findCosts_54, uX5_findCosts_54, bX5_findCosts_61, uX5_findCosts_61, bX5_findCosts_66, uX5_findCosts_66, bX5_findCosts_79, uX5_findCosts_79, bX5_findCosts_129, uX5_findCosts_129, bX5_findCosts_135, uX5_findCosts_135, pvMk_t, pvMk_f, pvMk_n, pvRtG, pvRecv_r, pvUp_nl, pvUp_same, pvUp_ap, pvSt_ap, pvX_c, pvX_ms, pvX_mn, pvE_nil, pvEn_i, pvEn_r, pvEn_l, pvEn_0, pvEn_s, pvRt, pvRv, pvTh, pvKc, pvGo, pvTgt, Int.toNat_natCast, false_and, and_false, true_and, and_true, if_true, if_false, reduceIte, reduceCtorEq, forall_const, false_or, or_false, true_or, or_true, ne_eq, not_true_eq_false, not_false_eq_true, implies_true, false_implies, Nat.reduceAdd, Nat.reduceSub, Nat.reduceMul, Nat.reduceEqDiff, Nat.reduceLT, Nat.reduceLeDiff, Int.reduceAdd, Int.reduceSub, Int.reduceMul, Int.reduceNeg, Int.reduceToNat, Int.reduceLE, Int.reduceLT, Int.reduceEq, Int.reduceNe, and_self]
        (repeat' first | with_reducible apply And.intro | with_reducible intro _)
        all_goals first
          | omega
          | exact q9
      | succ l ih =>
        intro z' hlF f1 o1
        have el : ((l + 1 : Nat) : Int) - 1 = l := by omega
        have nl1 : ((l : Int) + 1).toNat = l + 1 := by omega
        rw [el]
        have g32 := f1.1 32 (by decide)
        obtain ⟨b1, b2⟩ := hs l (by omega) (by omega)
        obtain ⟨b3, b4⟩ := hs (l + 1) (by omega) (by omega)
        have inner : ∀ (mk k : Nat) (z' : pvM), (k : Int) + mk = Qs.length → frF [31] [] z z' → z.1 32 l ≤ k → (∀ i m, i < Qs.length → m ≤ F → l + 1 ≤ F - m → lqF A B (F - m) (ndF Qs i) → z'.1 31 i = coK A B F m (ndF Qs i)) → (∀ i, i < k → lqF A B l (ndF Qs i) → z'.1 31 i = coK A B F (F - l) (ndF Qs i)) →
            SW 79 [some (vR 28), some (vR p), some (vR q), none, some (vI (l : Int)), some (vI (k : Int))] z' := by
          intro mk
          induction mk using Nat.strongRecOn with
          | _ mk ihk =>
            intro k z' hk f1 hsk o1 o2
            have g32 := f1.1 32 (by decide)
            refine hc 20 _ _ _ fun _ _ => ?_
            by_cases hke : z.1 32 (l + 1) ≤ k
            · have q9 := ih z' (by omega) f1 (fun i m hi hm hlm hl => by
                by_cases em : l = F - m
                · rw [← em] at hl
                  have hr := (sa_lq hs (by omega) (by omega) hi).mp hl
                  rw [o2 i (by omega) hl, show F - l = m by omega]
                · exact o1 i m hi hm (by omega) hl)
              simp only [pvSt1]
              simp only [C_X5_startOf, C_X5_leastCost, g32, nl1, pvE_aload_n0, pvLA_s, pvLd, pvE_iload_n3, pvLI_s, pvE_invokevirtual, pvC1_s, pvC2_s, pvAf_v, pvAf_x, pvPop, pvCs, pvCat, pvPush, aX5_findCosts_99, pvSh_0, pvSh_1, pvSh_2, pvSh_3, pvSh_4, pvSh_5, pvSh_6, pvSh_7, pvSh_8, pvSh_9, pvSh_10, pvSh_11, pvSh_12, pvSh_13, pvSh_14, pvSh_15, pvSh_16, pvSh_17, pvSh_18, pvSh_19, pvSh_20, pvSh_21, pvSh_22, pvSh_23, pvSh_24, pvSh_25, pvSh_26, pvSh_27, pvSh_28, pvSh_29, pvSh_30, pvSh_31, pvSh_32, pvSh_33, pvSh_34, pvSh_35, pvSh_36, pvSh_37, pvSh_38, pvE_istore, pvS1, List.length_cons, List.length_nil, pvClr_i, pvClr_r, pvClr_l, pvClr_d, pvClr_f, pvClr_n, pvE_iload, pvE_iconst, pvE_iadd, pvE_icmp_ge, pvE_sipush, pvE_getfield, pvGf_0, pvGf_1, pvGf_2, fX5_18, pvRf_0_0, pvRf_0_1, pvRf_0_2, pvRf_0_3, pvRf_0_4, pvRf_0_5, pvRf_0_6, pvRf_0_7, pvRf_0_8, pvRf_0_9, pvRf_0_10, pvRf_1_0, pvRf_3_0, pvRf_5_0, pvRf_5_1, pvRf_5_2, pvRf_9_0, pvRf_9_1, pvRf_9_2, pvRf_13_0, pvRf_13_1, pvRf_13_2, pvRf_17_0, pvRf_17_2, pvRf_20_0, pvRf_20_1, pvRf_20_2, pvRf_24_0, pvRf_24_1, pvRf_24_2, pvRf_28_0, pvRf_28_1, pvRf_28_2, pvRf_28_3, pvRf_33_0, pvRf_33_1, pvRf_36_0, pvRf_36_1, pvE_aload_n1, pvE_aload_n2, aX5_findCosts_67, pvE_invokestatic (h0 := eX5_85), aX5_findCosts_85, pvE_if_eq, pvE_goto, pvE_iastore, pvAI, pvE_iinc, pvIc_s, pvE_isub, pvE_if_lt, aX5_findCosts_102, pvE_return, bX5_findCosts_0, uX5_findCosts_0, bX5_findCosts_7, uX5_findCosts_7, bX5_findCosts_51, uX5_findCosts_51, bX5_findCosts_54, uX5_findCosts_54, bX5_findCosts_61, uX5_findCosts_61, bX5_findCosts_66, uX5_findCosts_66, bX5_findCosts_79, uX5_findCosts_79, bX5_findCosts_129, uX5_findCosts_129, bX5_findCosts_135, uX5_findCosts_135, pvMk_t, pvMk_f, pvMk_n, pvRtG, pvRecv_r, pvUp_nl, pvUp_same, pvUp_ap, pvSt_ap, pvX_c, pvX_ms, pvX_mn, pvE_nil, pvEn_i, pvEn_r, pvEn_l, pvEn_0, pvEn_s, pvRt, pvRv, pvTh, pvKc, pvGo, pvTgt, Int.toNat_natCast, false_and, and_false, true_and, and_true, if_true, if_false, reduceIte, reduceCtorEq, forall_const, false_or, or_false, true_or, or_true, ne_eq, not_true_eq_false, not_false_eq_true, implies_true, false_implies, Nat.reduceAdd, Nat.reduceSub, Nat.reduceMul, Nat.reduceEqDiff, Nat.reduceLT, Nat.reduceLeDiff, Int.reduceAdd, Int.reduceSub, Int.reduceMul, Int.reduceNeg, Int.reduceToNat, Int.reduceLE, Int.reduceLT, Int.reduceEq, Int.reduceNe, and_self]
              (repeat' first | with_reducible apply And.intro | with_reducible intro _)
              all_goals first
                | omega
                | exact q9
            · have hlk := (sa_lq hs (j := l) (by omega) (by omega) (show k < Qs.length by omega)).mpr ⟨hsk, by omega⟩
              have hA' := psS_m hA f1 (by simp)
              have hB' := psS_m hB f1 (by simp)
              have eco : coK A B F (F - l) (ndF Qs k) = mnK A B (l + 1) (coK A B F (F - (l + 1))) (ndF Qs k) nFif := by
                rw [show F - l = F - (l + 1) + 1 by omega]
                simp only [coK]
                rw [show F - (F - (l + 1)) = l + 1 by omega]
              have hlc : lcP A B z' Qs (l + 1) (coK A B F (F - (l + 1))) (z.1 32 (l + 1)) (ndF Qs k) := by
                refine ⟨b3.1, fun x hx => ?_, ⟨l, rfl, hlk.1⟩, fun x hx => (ha x).mpr ⟨l + 1, by omega, hx⟩, fun x hx hl => ?_, fun x => coK_r A B F (F - (l + 1)) x⟩
                · obtain ⟨x1, x2⟩ := ixN_lt hx
                  have := b4 _ x1
                  rw [x2] at this
                  rw [← this, show ixF Qs x = ((ixN Qs x : Nat) : Int) from if_pos hx]
                  omega
                · obtain ⟨x1, x2⟩ := ixN_lt hx
                  have := o1 (ixN Qs x) (F - (l + 1)) x1 (by omega) (by omega) (by rw [x2, show F - (F - (l + 1)) = l + 1 by omega]; exact hl)
                  rw [x2] at this
                  exact this
              have q9 := ihk (mk - 1) (by omega) (k + 1) (pvUp z'.1 31 k (mnK A B (l + 1) (coK A B F (F - (l + 1))) (ndF Qs k) nFif), z'.2) (by omega) (by (repeat' first | assumption | exact frF_0 | (refine frF_u ?_ (by decide)) | (refine frF_s ?_ (by decide)) | (refine frF_l ?_ (by decide)))) (by omega) (fun i m hi hm hlm hl => by
                simp only [pvUp_ap, true_and]
                by_cases e : i = k
                · subst e
                  have := lv_un hl hlk
                  omega
                · rw [if_neg e]; exact o1 i m hi hm hlm hl) (fun i hi hl => by
                simp only [pvUp_ap, true_and]
                by_cases e : i = k
                · subst e
                  rw [if_pos rfl, eco]
                · rw [if_neg e]; exact o2 i (by omega) hl)
              have hkm : ((k : Int)).toNat = k := Int.toNat_natCast k
              simp only [pvSt1]
              simp only [C_X5_startOf, C_X5_leastCost, g32, nl1, pvE_aload_n0, pvLA_s, pvLd, pvE_iload_n3, pvLI_s, pvE_invokevirtual, pvC1_s, pvC2_s, pvAf_v, pvAf_x, pvPop, pvCs, pvCat, pvPush, aX5_findCosts_99, pvSh_0, pvSh_1, pvSh_2, pvSh_3, pvSh_4, pvSh_5, pvSh_6, pvSh_7, pvSh_8, pvSh_9, pvSh_10, pvSh_11, pvSh_12, pvSh_13, pvSh_14, pvSh_15, pvSh_16, pvSh_17, pvSh_18, pvSh_19, pvSh_20, pvSh_21, pvSh_22, pvSh_23, pvSh_24, pvSh_25, pvSh_26, pvSh_27, pvSh_28, pvSh_29, pvSh_30, pvSh_31, pvSh_32, pvSh_33, pvSh_34, pvSh_35, pvSh_36, pvSh_37, pvSh_38, pvE_istore, pvS1, List.length_cons, List.length_nil, pvClr_i, pvClr_r, pvClr_l, pvClr_d, pvClr_f, pvClr_n, pvE_iload, pvE_iconst, pvE_iadd, pvE_icmp_ge, pvE_sipush, pvE_getfield, pvGf_0, pvGf_1, pvGf_2, fX5_18, pvRf_0_0, pvRf_0_1, pvRf_0_2, pvRf_0_3, pvRf_0_4, pvRf_0_5, pvRf_0_6, pvRf_0_7, pvRf_0_8, pvRf_0_9, pvRf_0_10, pvRf_1_0, pvRf_3_0, pvRf_5_0, pvRf_5_1, pvRf_5_2, pvRf_9_0, pvRf_9_1, pvRf_9_2, pvRf_13_0, pvRf_13_1, pvRf_13_2, pvRf_17_0, pvRf_17_2, pvRf_20_0, pvRf_20_1, pvRf_20_2, pvRf_24_0, pvRf_24_1, pvRf_24_2, pvRf_28_0, pvRf_28_1, pvRf_28_2, pvRf_28_3, pvRf_33_0, pvRf_33_1, pvRf_36_0, pvRf_36_1, pvE_aload_n1, pvE_aload_n2, aX5_findCosts_67, pvE_invokestatic (h0 := eX5_85), aX5_findCosts_85, pvE_if_eq, pvE_goto, pvE_iastore, pvAI, pvE_iinc, pvIc_s, pvE_isub, pvE_if_lt, aX5_findCosts_102, pvE_return, bX5_findCosts_0, uX5_findCosts_0, bX5_findCosts_7, uX5_findCosts_7, bX5_findCosts_51, uX5_findCosts_51, bX5_findCosts_54, uX5_findCosts_54, bX5_findCosts_61, uX5_findCosts_61, bX5_findCosts_66, uX5_findCosts_66, bX5_findCosts_79, uX5_findCosts_79, bX5_findCosts_129, uX5_findCosts_129, bX5_findCosts_135, uX5_findCosts_135, pvMk_t, pvMk_f, pvMk_n, pvRtG, pvRecv_r, pvUp_nl, pvUp_same, pvUp_ap, pvSt_ap, pvX_c, pvX_ms, pvX_mn, pvE_nil, pvEn_i, pvEn_r, pvEn_l, pvEn_0, pvEn_s, pvRt, pvRv, pvTh, pvKc, pvGo, pvTgt, Int.toNat_natCast, false_and, and_false, true_and, and_true, if_true, if_false, reduceIte, reduceCtorEq, forall_const, false_or, or_false, true_or, or_true, ne_eq, not_true_eq_false, not_false_eq_true, implies_true, false_implies, Nat.reduceAdd, Nat.reduceSub, Nat.reduceMul, Nat.reduceEqDiff, Nat.reduceLT, Nat.reduceLeDiff, Int.reduceAdd, Int.reduceSub, Int.reduceMul, Int.reduceNeg, Int.reduceToNat, Int.reduceLE, Int.reduceLT, Int.reduceEq, Int.reduceNe, and_self]
              (repeat' first | with_reducible apply And.intro | with_reducible intro _)
              all_goals first
                | omega
                | skip
              all_goals
                refine ⟨A, B, Qs, l + 1, coK A B F (F - (l + 1)), ⟨hq' _ f1, hA', hB', by omega, hlc⟩, ?_⟩
                first
                  | exact q9
                  | ((repeat' first | with_reducible apply And.intro | with_reducible intro _)
                     all_goals first
                       | omega
                       | exact q9)
        have q9 := inner (Qs.length - (z.1 32 l).toNat) (z.1 32 l).toNat z' (by omega) f1 (by omega) o1 (fun i hi hl => by
          exfalso
          have hil : i < Qs.length := by omega
          have := (sa_lq hs (by omega) (by omega) hil).mp hl
          omega)
        rw [show (((z.1 32 l).toNat : Nat) : Int) = z.1 32 l by omega] at q9
        refine hc 20 _ _ _ fun _ _ => ?_
        simp only [pvSt1]
        simp only [C_X5_startOf, g32, pvE_aload_n0, pvLA_s, pvLd, pvE_iload_n3, pvLI_s, pvE_invokevirtual, pvC1_s, pvC2_s, pvAf_v, pvAf_x, pvPop, pvCs, pvCat, pvPush, aX5_findCosts_99, pvSh_0, pvSh_1, pvSh_2, pvSh_3, pvSh_4, pvSh_5, pvSh_6, pvSh_7, pvSh_8, pvSh_9, pvSh_10, pvSh_11, pvSh_12, pvSh_13, pvSh_14, pvSh_15, pvSh_16, pvSh_17, pvSh_18, pvSh_19, pvSh_20, pvSh_21, pvSh_22, pvSh_23, pvSh_24, pvSh_25, pvSh_26, pvSh_27, pvSh_28, pvSh_29, pvSh_30, pvSh_31, pvSh_32, pvSh_33, pvSh_34, pvSh_35, pvSh_36, pvSh_37, pvSh_38, pvE_istore, pvS1, List.length_cons, List.length_nil, pvClr_i, pvClr_r, pvClr_l, pvClr_d, pvClr_f, pvClr_n, pvE_iload, pvE_iconst, pvE_iadd, pvE_icmp_ge, pvE_sipush, pvE_getfield, pvGf_0, pvGf_1, pvGf_2, fX5_18, pvRf_0_0, pvRf_0_1, pvRf_0_2, pvRf_0_3, pvRf_0_4, pvRf_0_5, pvRf_0_6, pvRf_0_7, pvRf_0_8, pvRf_0_9, pvRf_0_10, pvRf_1_0, pvRf_3_0, pvRf_5_0, pvRf_5_1, pvRf_5_2, pvRf_9_0, pvRf_9_1, pvRf_9_2, pvRf_13_0, pvRf_13_1, pvRf_13_2, pvRf_17_0, pvRf_17_2, pvRf_20_0, pvRf_20_1, pvRf_20_2, pvRf_24_0, pvRf_24_1, pvRf_24_2, pvRf_28_0, pvRf_28_1, pvRf_28_2, pvRf_28_3, pvRf_33_0, pvRf_33_1, pvRf_36_0, pvRf_36_1, pvE_aload_n1, pvE_aload_n2, aX5_findCosts_67, pvE_invokestatic (h0 := eX5_85), aX5_findCosts_85, pvE_if_eq, pvE_goto, pvE_iastore, pvAI, pvE_iinc, pvIc_s, pvE_isub, pvE_if_lt, aX5_findCosts_102, pvE_return, bX5_findCosts_0, uX5_findCosts_0, bX5_findCosts_7, uX5_findCosts_7, bX5_findCosts_51, uX5_findCosts_51, bX5_findCosts_54, uX5_findCosts_54, bX5_findCosts_61, uX5_findCosts_61, bX5_findCosts_66, uX5_findCosts_66, bX5_findCosts_79, uX5_findCosts_79, bX5_findCosts_129, uX5_findCosts_129, bX5_findCosts_135, uX5_findCosts_135, pvMk_t, pvMk_f, pvMk_n, pvRtG, pvRecv_r, pvUp_nl, pvUp_same, pvUp_ap, pvSt_ap, pvX_c, pvX_ms, pvX_mn, pvE_nil, pvEn_i, pvEn_r, pvEn_l, pvEn_0, pvEn_s, pvRt, pvRv, pvTh, pvKc, pvGo, pvTgt, Int.toNat_natCast, false_and, and_false, true_and, and_true, if_true, if_false, reduceIte, reduceCtorEq, forall_const, false_or, or_false, true_or, or_true, ne_eq, not_true_eq_false, not_false_eq_true, implies_true, false_implies, Nat.reduceAdd, Nat.reduceSub, Nat.reduceMul, Nat.reduceEqDiff, Nat.reduceLT, Nat.reduceLeDiff, Int.reduceAdd, Int.reduceSub, Int.reduceMul, Int.reduceNeg, Int.reduceToNat, Int.reduceLE, Int.reduceLT, Int.reduceEq, Int.reduceNe, and_self]
        (repeat' first | with_reducible apply And.intro | with_reducible intro _)
        all_goals first
          | omega
          | exact q9
    obtain ⟨b1, b2⟩ := hs F (by omega) (by omega)
    obtain ⟨b3, b4⟩ := hs (F + 1) (by omega) (by omega)
    have first1 : ∀ (mk k : Nat) (z' : pvM), (k : Int) + mk = Qs.length → frF [31] [] z z' → z.1 32 F ≤ k → (∀ i, i < k → lqF A B F (ndF Qs i) → z'.1 31 i = coK A B F 0 (ndF Qs i)) →
        SW 7 [some (vR 28), some (vR p), some (vR q), some (vI (F : Int)), some (vI (k : Int)), none] z' := by
      intro mk
      induction mk using Nat.strongRecOn with
      | _ mk ihk =>
        intro k z' hk f1 hsk o2
        have g32 := f1.1 32 (by decide)
        refine hc 20 _ _ _ fun _ _ => ?_
        by_cases hke : z.1 32 (F + 1) ≤ k
        · have q9 := levels F z' (Nat.le_refl _) f1 (fun i m hi hm hlm hl => by
            obtain rfl : m = 0 := by omega
            rw [Nat.sub_zero] at hl
            have hr := (sa_lq hs (by omega) (by omega) hi).mp hl
            exact o2 i (by omega) hl)
          simp only [pvSt1]
          simp only [C_X5_startOf, C_X5_isGoal, g32, n1, pvE_aload_n0, pvLA_s, pvLd, pvE_iload_n3, pvLI_s, pvE_invokevirtual, pvC1_s, pvC2_s, pvAf_v, pvAf_x, pvPop, pvCs, pvCat, pvPush, aX5_findCosts_99, pvSh_0, pvSh_1, pvSh_2, pvSh_3, pvSh_4, pvSh_5, pvSh_6, pvSh_7, pvSh_8, pvSh_9, pvSh_10, pvSh_11, pvSh_12, pvSh_13, pvSh_14, pvSh_15, pvSh_16, pvSh_17, pvSh_18, pvSh_19, pvSh_20, pvSh_21, pvSh_22, pvSh_23, pvSh_24, pvSh_25, pvSh_26, pvSh_27, pvSh_28, pvSh_29, pvSh_30, pvSh_31, pvSh_32, pvSh_33, pvSh_34, pvSh_35, pvSh_36, pvSh_37, pvSh_38, pvE_istore, pvS1, List.length_cons, List.length_nil, pvClr_i, pvClr_r, pvClr_l, pvClr_d, pvClr_f, pvClr_n, pvE_iload, pvE_iconst, pvE_iadd, pvE_icmp_ge, pvE_sipush, pvE_getfield, pvGf_0, pvGf_1, pvGf_2, fX5_18, pvRf_0_0, pvRf_0_1, pvRf_0_2, pvRf_0_3, pvRf_0_4, pvRf_0_5, pvRf_0_6, pvRf_0_7, pvRf_0_8, pvRf_0_9, pvRf_0_10, pvRf_1_0, pvRf_3_0, pvRf_5_0, pvRf_5_1, pvRf_5_2, pvRf_9_0, pvRf_9_1, pvRf_9_2, pvRf_13_0, pvRf_13_1, pvRf_13_2, pvRf_17_0, pvRf_17_2, pvRf_20_0, pvRf_20_1, pvRf_20_2, pvRf_24_0, pvRf_24_1, pvRf_24_2, pvRf_28_0, pvRf_28_1, pvRf_28_2, pvRf_28_3, pvRf_33_0, pvRf_33_1, pvRf_36_0, pvRf_36_1, pvE_aload_n1, pvE_aload_n2, aX5_findCosts_67, pvE_invokestatic (h0 := eX5_85), aX5_findCosts_85, pvE_if_eq, pvE_goto, pvE_iastore, pvAI, pvE_iinc, pvIc_s, pvE_isub, pvE_if_lt, aX5_findCosts_102, pvE_return, bX5_findCosts_0, uX5_findCosts_0, bX5_findCosts_7, uX5_findCosts_7, bX5_findCosts_51, uX5_findCosts_51, bX5_findCosts_54, uX5_findCosts_54, bX5_findCosts_61, uX5_findCosts_61, bX5_findCosts_66, uX5_findCosts_66, bX5_findCosts_79, uX5_findCosts_79, bX5_findCosts_129, uX5_findCosts_129, bX5_findCosts_135, uX5_findCosts_135, pvMk_t, pvMk_f, pvMk_n, pvRtG, pvRecv_r, pvUp_nl, pvUp_same, pvUp_ap, pvSt_ap, pvX_c, pvX_ms, pvX_mn, pvE_nil, pvEn_i, pvEn_r, pvEn_l, pvEn_0, pvEn_s, pvRt, pvRv, pvTh, pvKc, pvGo, pvTgt, Int.toNat_natCast, false_and, and_false, true_and, and_true, if_true, if_false, reduceIte, reduceCtorEq, forall_const, false_or, or_false, true_or, or_true, ne_eq, not_true_eq_false, not_false_eq_true, implies_true, false_implies, Nat.reduceAdd, Nat.reduceSub, Nat.reduceMul, Nat.reduceEqDiff, Nat.reduceLT, Nat.reduceLeDiff, Int.reduceAdd, Int.reduceSub, Int.reduceMul, Int.reduceNeg, Int.reduceToNat, Int.reduceLE, Int.reduceLT, Int.reduceEq, Int.reduceNe, and_self]
          (repeat' first | with_reducible apply And.intro | with_reducible intro _)
          all_goals first
            | omega
            | exact q9
        · have g30 := f1.1 30 (by decide)
          have hlk := (sa_lq hs (j := F) (by omega) (by omega) (show k < Qs.length by omega)).mpr ⟨hsk, by omega⟩
          have hA' := psS_m hA f1 (by simp)
          have hB' := psS_m hB f1 (by simp)
          have ek := hq.2.1 k (by omega)
          have hokk := hq.2.2.2.2 _ (ndF_m (L := Qs) (i := k) (by omega))
          have hk0 := hokk.1
          have hg := go_ps hA' hB' (ndF Qs k)
          have q9 := fun (x : Int) (hx : x = coK A B F 0 (ndF Qs k)) => ihk (mk - 1) (by omega) (k + 1) (pvUp z'.1 31 k x, z'.2) (by omega) (by (repeat' first | assumption | exact frF_0 | (refine frF_u ?_ (by decide)) | (refine frF_s ?_ (by decide)) | (refine frF_l ?_ (by decide)))) (by omega) (fun i hi hl => by
            simp only [pvUp_ap, true_and]
            by_cases e : i = k
            · subst e
              rw [if_pos rfl, hx]
            · rw [if_neg e]; exact o2 i (by omega) hl)
          simp only [pvSt1]
          simp only [C_X5_startOf, C_X5_configurationAt, C_X5_isGoal, g32, n1, g30, ek, pvE_aload_n0, pvLA_s, pvLd, pvE_iload_n3, pvLI_s, pvE_invokevirtual, pvC1_s, pvC2_s, pvAf_v, pvAf_x, pvPop, pvCs, pvCat, pvPush, aX5_findCosts_99, pvSh_0, pvSh_1, pvSh_2, pvSh_3, pvSh_4, pvSh_5, pvSh_6, pvSh_7, pvSh_8, pvSh_9, pvSh_10, pvSh_11, pvSh_12, pvSh_13, pvSh_14, pvSh_15, pvSh_16, pvSh_17, pvSh_18, pvSh_19, pvSh_20, pvSh_21, pvSh_22, pvSh_23, pvSh_24, pvSh_25, pvSh_26, pvSh_27, pvSh_28, pvSh_29, pvSh_30, pvSh_31, pvSh_32, pvSh_33, pvSh_34, pvSh_35, pvSh_36, pvSh_37, pvSh_38, pvE_istore, pvS1, List.length_cons, List.length_nil, pvClr_i, pvClr_r, pvClr_l, pvClr_d, pvClr_f, pvClr_n, pvE_iload, pvE_iconst, pvE_iadd, pvE_icmp_ge, pvE_sipush, pvE_getfield, pvGf_0, pvGf_1, pvGf_2, fX5_18, pvRf_0_0, pvRf_0_1, pvRf_0_2, pvRf_0_3, pvRf_0_4, pvRf_0_5, pvRf_0_6, pvRf_0_7, pvRf_0_8, pvRf_0_9, pvRf_0_10, pvRf_1_0, pvRf_3_0, pvRf_5_0, pvRf_5_1, pvRf_5_2, pvRf_9_0, pvRf_9_1, pvRf_9_2, pvRf_13_0, pvRf_13_1, pvRf_13_2, pvRf_17_0, pvRf_17_2, pvRf_20_0, pvRf_20_1, pvRf_20_2, pvRf_24_0, pvRf_24_1, pvRf_24_2, pvRf_28_0, pvRf_28_1, pvRf_28_2, pvRf_28_3, pvRf_33_0, pvRf_33_1, pvRf_36_0, pvRf_36_1, pvE_aload_n1, pvE_aload_n2, aX5_findCosts_67, pvE_invokestatic (h0 := eX5_85), aX5_findCosts_85, pvE_if_eq, pvE_goto, pvE_iastore, pvAI, pvE_iinc, pvIc_s, pvE_isub, pvE_if_lt, aX5_findCosts_102, pvE_return, bX5_findCosts_0, uX5_findCosts_0, bX5_findCosts_7, uX5_findCosts_7, bX5_findCosts_51, uX5_findCosts_51, bX5_findCosts_54, uX5_findCosts_54, bX5_findCosts_61, uX5_findCosts_61, bX5_findCosts_66, uX5_findCosts_66, bX5_findCosts_79, uX5_findCosts_79, bX5_findCosts_129, uX5_findCosts_129, bX5_findCosts_135, uX5_findCosts_135, pvMk_t, pvMk_f, pvMk_n, pvRtG, pvRecv_r, pvUp_nl, pvUp_same, pvUp_ap, pvSt_ap, pvX_c, pvX_ms, pvX_mn, pvE_nil, pvEn_i, pvEn_r, pvEn_l, pvEn_0, pvEn_s, pvRt, pvRv, pvTh, pvKc, pvGo, pvTgt, Int.toNat_natCast, false_and, and_false, true_and, and_true, if_true, if_false, reduceIte, reduceCtorEq, forall_const, false_or, or_false, true_or, or_true, ne_eq, not_true_eq_false, not_false_eq_true, implies_true, false_implies, Nat.reduceAdd, Nat.reduceSub, Nat.reduceMul, Nat.reduceEqDiff, Nat.reduceLT, Nat.reduceLeDiff, Int.reduceAdd, Int.reduceSub, Int.reduceMul, Int.reduceNeg, Int.reduceToNat, Int.reduceLE, Int.reduceLT, Int.reduceEq, Int.reduceNe, and_self]
          by_cases e : goF A B (ndF Qs k)
          · have q8 := q9 0 (by simp only [coK]; rw [if_pos (goB_t.mpr e)])
            have e2 := hg.mp e
            (repeat' first | with_reducible apply And.intro | with_reducible intro _)
            all_goals first
              | omega
              | assumption
              | (exfalso; apply_assumption; exact e2)
              | contradiction
          · have q8 := q9 1000 (by simp only [coK]; rw [if_neg (fun h => e (goB_t.mp h))])
            have e2 := mt hg.mpr e
            (repeat' first | with_reducible apply And.intro | with_reducible intro _)
            all_goals first
              | omega
              | assumption
              | (exfalso; exact e2 (by assumption))
              | contradiction
    have q9 := first1 (Qs.length - (z.1 32 F).toNat) (z.1 32 F).toNat z (by omega) frF_0 (by omega) (fun i hi hl => by
      exfalso
      have hil : i < Qs.length := by omega
      have := (sa_lq hs (by omega) (by omega) hil).mp hl
      omega)
    rw [show (((z.1 32 F).toNat : Nat) : Int) = z.1 32 F by omega] at q9
    refine hc 20 _ _ _ fun _ _ => ?_
    simp only [pvSt1]
    simp only [C_X5_startOf, pvE_aload_n0, pvLA_s, pvLd, pvE_iload_n3, pvLI_s, pvE_invokevirtual, pvC1_s, pvC2_s, pvAf_v, pvAf_x, pvPop, pvCs, pvCat, pvPush, aX5_findCosts_99, pvSh_0, pvSh_1, pvSh_2, pvSh_3, pvSh_4, pvSh_5, pvSh_6, pvSh_7, pvSh_8, pvSh_9, pvSh_10, pvSh_11, pvSh_12, pvSh_13, pvSh_14, pvSh_15, pvSh_16, pvSh_17, pvSh_18, pvSh_19, pvSh_20, pvSh_21, pvSh_22, pvSh_23, pvSh_24, pvSh_25, pvSh_26, pvSh_27, pvSh_28, pvSh_29, pvSh_30, pvSh_31, pvSh_32, pvSh_33, pvSh_34, pvSh_35, pvSh_36, pvSh_37, pvSh_38, pvE_istore, pvS1, List.length_cons, List.length_nil, pvClr_i, pvClr_r, pvClr_l, pvClr_d, pvClr_f, pvClr_n, pvE_iload, pvE_iconst, pvE_iadd, pvE_icmp_ge, pvE_sipush, pvE_getfield, pvGf_0, pvGf_1, pvGf_2, fX5_18, pvRf_0_0, pvRf_0_1, pvRf_0_2, pvRf_0_3, pvRf_0_4, pvRf_0_5, pvRf_0_6, pvRf_0_7, pvRf_0_8, pvRf_0_9, pvRf_0_10, pvRf_1_0, pvRf_3_0, pvRf_5_0, pvRf_5_1, pvRf_5_2, pvRf_9_0, pvRf_9_1, pvRf_9_2, pvRf_13_0, pvRf_13_1, pvRf_13_2, pvRf_17_0, pvRf_17_2, pvRf_20_0, pvRf_20_1, pvRf_20_2, pvRf_24_0, pvRf_24_1, pvRf_24_2, pvRf_28_0, pvRf_28_1, pvRf_28_2, pvRf_28_3, pvRf_33_0, pvRf_33_1, pvRf_36_0, pvRf_36_1, pvE_aload_n1, pvE_aload_n2, aX5_findCosts_67, pvE_invokestatic (h0 := eX5_85), aX5_findCosts_85, pvE_if_eq, pvE_goto, pvE_iastore, pvAI, pvE_iinc, pvIc_s, pvE_isub, pvE_if_lt, aX5_findCosts_102, pvE_return, bX5_findCosts_0, uX5_findCosts_0, bX5_findCosts_7, uX5_findCosts_7, bX5_findCosts_51, uX5_findCosts_51, bX5_findCosts_54, uX5_findCosts_54, bX5_findCosts_61, uX5_findCosts_61, bX5_findCosts_66, uX5_findCosts_66, bX5_findCosts_79, uX5_findCosts_79, bX5_findCosts_129, uX5_findCosts_129, bX5_findCosts_135, uX5_findCosts_135, pvMk_t, pvMk_f, pvMk_n, pvRtG, pvRecv_r, pvUp_nl, pvUp_same, pvUp_ap, pvSt_ap, pvX_c, pvX_ms, pvX_mn, pvE_nil, pvEn_i, pvEn_r, pvEn_l, pvEn_0, pvEn_s, pvRt, pvRv, pvTh, pvKc, pvGo, pvTgt, Int.toNat_natCast, false_and, and_false, true_and, and_true, if_true, if_false, reduceIte, reduceCtorEq, forall_const, false_or, or_false, true_or, or_true, ne_eq, not_true_eq_false, not_false_eq_true, implies_true, false_implies, Nat.reduceAdd, Nat.reduceSub, Nat.reduceMul, Nat.reduceEqDiff, Nat.reduceLT, Nat.reduceLeDiff, Int.reduceAdd, Int.reduceSub, Int.reduceMul, Int.reduceNeg, Int.reduceToNat, Int.reduceLE, Int.reduceLT, Int.reduceEq, Int.reduceNe, and_self]
    (repeat' first | with_reducible apply And.intro | with_reducible intro _)
    all_goals first
      | omega
      | exact q9
  · exact h.elim
/-- the class's word, whole: with the valuation behind it -/
def WvF (z : Nat → Nat → Int) : Prop := WcF z ∧ z 20 3 = vaF (z 21) (z 22) (z 20 4).toNat
theorem vaF_e {d l d' l' : Nat → Int} (k : Nat) (h : ∀ j, j < k → d' j = d j ∧ l' j = l j) : vaF d' l' k = vaF d l k := by
  induction k with
  | zero => rfl
  | succ k ih =>
    simp only [vaF]
    rw [ih (fun j hj => h j (by omega)), (h k (by omega)).1, (h k (by omega)).2]
theorem wv_ap {z z' : Nat → Nat → Int} {d l : Int} (h : WvF z) (hn : z 20 4 < 10) (hd : 0 ≤ d ∧ d ≤ 4) (hl : 0 ≤ l ∧ l ≤ 2) (e4 : z' 20 4 = z 20 4 + 1) (e3 : z' 20 3 = rsF (psF (z 20 3) d) l)
    (ed : ∀ j, z' 21 j = if j = (z 20 4).toNat then d else z 21 j) (el : ∀ j, z' 22 j = if j = (z 20 4).toNat then l else z 22 j) (ev : ∀ j, z' 23 j = if j = (z 20 4).toNat then psF (z 20 3) d else z 23 j) : WvF z' := by
  obtain ⟨⟨⟨h1, h2⟩, h3⟩, h4⟩ := h
  obtain ⟨n, en⟩ : ∃ n : Nat, z 20 4 = n := ⟨(z 20 4).toNat, by omega⟩
  rw [en, Int.toNat_natCast] at ed el ev h4
  have hva : ∀ k, k ≤ n → vaF (z' 21) (z' 22) k = vaF (z 21) (z 22) k := fun k hk => vaF_e k (fun j hj => by rw [ed j, el j, if_neg (by omega), if_neg (by omega)]; exact ⟨rfl, rfl⟩)
  refine ⟨⟨⟨by omega, fun k hk => ?_⟩, fun k hk => ?_⟩, ?_⟩
  · rw [ed k, el k]
    by_cases e : k = n
    · rw [if_pos e, if_pos e]; exact ⟨hd, hl⟩
    · rw [if_neg e, if_neg e]; exact h2 k (by omega)
  · rw [ev k, ed k, hva k (by omega)]
    by_cases e : k = n
    · rw [if_pos e, if_pos e, e, ← h4]
    · rw [if_neg e, if_neg e]; exact h3 k (by omega)
  · rw [e4, en, show ((n : Int) + 1).toNat = n + 1 by omega, e3]
    simp only [vaF]
    rw [hva n (Nat.le_refl _), ed n, el n, if_pos rfl, if_pos rfl, ← h4]
theorem wv_r {z : Nat → Nat → Int} (h : WvF z) : 0 ≤ z 20 3 ∧ z 20 3 < 216 := by
  rw [h.2]
  have := h.1.1.1
  exact vaF_r h.1.1 _ (by omega)
theorem wv_0 {z : Nat → Nat → Int} (h4 : z 20 4 = 0) (h3 : z 20 3 = 215) : WvF z := by
  refine ⟨⟨⟨by omega, fun k hk => by omega⟩, fun k hk => by omega⟩, ?_⟩
  rw [h4, h3]
  rfl
noncomputable def nkF (A B : Aut) (F i : Nat) (c : Int) : Nat := @Classical.epsilon Nat ⟨0⟩ (fun k => k < 15 ∧ nxP A B F i c k ∧ ∀ j, j < k → ¬ nxP A B F i c j)
noncomputable def wcF (A B : Aut) (F : Nat) : Nat → Int
  | 0 => c0F A B
  | i + 1 => stF1 A B (wcF A B F i) ((nkF A B F i (wcF A B F i) / 5 : Nat) : Int) ((nkF A B F i (wcF A B F i) % 5 : Nat) : Int)
theorem nk_sp {A B : Aut} {F i : Nat} {c : Int} (hi : i < F) (h : coK A B F (F - i) c < 1000) : nkF A B F i c < 15 ∧ nxP A B F i c (nkF A B F i c) ∧ ∀ j, j < nkF A B F i c → ¬ nxP A B F i c j :=
  @Classical.epsilon_spec_aux Nat ⟨0⟩ (fun k => k < 15 ∧ nxP A B F i c k ∧ ∀ j, j < k → ¬ nxP A B F i c j) (nx_ex hi h)
theorem wc_ok {A B : Aut} (hA : WfA A) (hB : WfA B) {F : Nat} (hf : fdF A B F) (hF : F ≤ 10) (i : Nat) (hi : i ≤ F) : lqF A B i (wcF A B F i) ∧ coK A B F (F - i) (wcF A B F i) < 1000 := by
  induction i with
  | zero =>
    refine ⟨⟨rfl, fun m hm => absurd hm (Nat.not_lt_zero _)⟩, ?_⟩
    have := co_0 hA hB hf
    rw [Nat.sub_zero]
    show coK A B F F (c0F A B) < 1000
    omega
  | succ i ih =>
    obtain ⟨h1, h2⟩ := ih (by omega)
    obtain ⟨h3, ⟨h4, h5⟩, h6⟩ := nk_sp (by omega) h2
    refine ⟨lvB_t.mp h4, ?_⟩
    show coK A B F (F - (i + 1)) (stF1 A B (wcF A B F i) _ _) < 1000
    omega
theorem wc_wy {A B : Aut} (hA : WfA A) (hB : WfA B) {F : Nat} (hf : fdF A B F) (hF : F ≤ 10) : wyP A B F (wcF A B F) (fun i => nkF A B F i (wcF A B F i)) :=
  ⟨rfl, fun i hi => ⟨nk_sp hi (wc_ok hA hB hf hF i (by omega)).2, rfl⟩⟩

