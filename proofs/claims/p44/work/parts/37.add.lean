def C_X0_add : pvC
  | [.inr (.inr (.inl id)), .inl q, .inl a, .inl r, .inr (.inr (.inl w))], z, Q => (id = 1 ∨ id = 3) ∧ (w = 17 ∧ (0 ≤ z.1 (id + 1) 0 ∧ z.1 (id + 1) 0 ≤ 9) ∧ GwF (z.1 17 3) (z.1 19)) ∧
      ∀ (g : Nat → Int) (x : Int), adI (z.1 (id + 1)) (z.1 (id + 1) 0).toNat q a r (z.1 17 3) (z.1 19) g (z.1 17 3).toNat 0 → (0 ≤ x ∧ x < 262144) → (∀ v : Int, 0 ≤ v ∧ v < 216 → (alF x v = true ↔ hoN (z.1 19) v (z.1 17 3).toNat)) →
        Q (.inl (some (vI (z.1 (id + 1) 0)))) (pvSt z.1 (id + 1) (fun j => if j = 0 then z.1 (id + 1) 0 + 1 else if j = 3 + 17 * (z.1 (id + 1) 0).toNat + 16 then x else g j), z.2)
  | _, _, _ => False
def bX0_add : Nat → List (Instr × Nat)
  | 0 => [(.aload_n 0, 1), (.invokevirtual 23, 3), (.istore 5, 2), (.aload_n 0, 1), (.iload 5, 2), (.iconst 0, 1), (.iload_n 1, 1), (.invokevirtual 27, 3), (.aload_n 0, 1), (.iload 5, 2), (.iconst 1, 1), (.iload_n 2, 1), (.invokevirtual 27, 3), (.aload_n 0, 1), (.iload 5, 2), (.iconst 2, 1), (.iload_n 3, 1), (.invokevirtual 27, 3), (.aload_n 0, 1), (.iload 5, 2), (.iconst 3, 1), (.aload 4, 2), (.getfield 31, 3), (.invokevirtual 27, 3), (.ldc 39, 2), (.istore 6, 2), (.iconst 0, 1), (.istore 7, 2)]
  | 49 => [(.iload 7, 2), (.aload 4, 2), (.getfield 31, 3), (.if_icmp .ge 71, 3), (.iconst 0, 1), (.istore 8, 2)]
  | 62 => [(.iload 8, 2), (.iconst 3, 1), (.if_icmp .ge 33, 3), (.aload_n 0, 1), (.iload 5, 2), (.iconst 4, 1), (.iconst 3, 1), (.iload 7, 2), (.imul, 1), (.iadd, 1), (.iload 8, 2), (.iadd, 1), (.aload 4, 2), (.iload 7, 2), (.iload 8, 2), (.invokevirtual 40, 3), (.invokevirtual 27, 3), (.iinc 8 1, 3), (.goto (-33), 3)]
  | 98 => [(.iload 6, 2), (.aload 4, 2), (.iload 7, 2), (.iconst 0, 1), (.invokevirtual 40, 3), (.aload_n 0, 1), (.iload 5, 2), (.iload 7, 2), (.invokevirtual 43, 3), (.invokestatic 46, 3), (.istore 6, 2), (.iinc 7 1, 3), (.goto (-75), 3)]
  | 127 => [(.aload_n 0, 1), (.iload 5, 2), (.bipush 16, 2), (.iload 6, 2), (.invokevirtual 27, 3), (.aload_n 0, 1), (.getfield 11, 3), (.iconst 0, 1), (.iload 5, 2), (.iconst 1, 1), (.iadd, 1), (.iastore, 1), (.iload 5, 2), (.ireturn, 1)]
  | _ => []
def uX0_add : Nat → Option (List Bool)
  | 49 => some [true, false, false, false, true, true, true, true, false]
  | 62 => some [true, false, false, false, true, true, true, true, true]
  | _ => none
def aX0_add : pvCa
  | 23 => some (1, false, 0, 0, C_X0_size)
  | 27 => some (4, false, 0, 0, C_X0_putCell)
  | 40 => some (3, false, 1, 0, C_X1_numberAt)
  | 43 => some (3, false, 0, 0, C_X0_satisfyingValues)
  | 46 => some (3, true, 0, 0, C_X7_narrowed)
  | _ => none
theorem bX0_add_0 : bX0_add 0 = [(.aload_n 0, 1), (.invokevirtual 23, 3), (.istore 5, 2), (.aload_n 0, 1), (.iload 5, 2), (.iconst 0, 1), (.iload_n 1, 1), (.invokevirtual 27, 3), (.aload_n 0, 1), (.iload 5, 2), (.iconst 1, 1), (.iload_n 2, 1), (.invokevirtual 27, 3), (.aload_n 0, 1), (.iload 5, 2), (.iconst 2, 1), (.iload_n 3, 1), (.invokevirtual 27, 3), (.aload_n 0, 1), (.iload 5, 2), (.iconst 3, 1), (.aload 4, 2), (.getfield 31, 3), (.invokevirtual 27, 3), (.ldc 39, 2), (.istore 6, 2), (.iconst 0, 1), (.istore 7, 2)] := rfl
theorem uX0_add_0 : uX0_add 0 = none := rfl
theorem bX0_add_49 : bX0_add 49 = [(.iload 7, 2), (.aload 4, 2), (.getfield 31, 3), (.if_icmp .ge 71, 3), (.iconst 0, 1), (.istore 8, 2)] := rfl
theorem uX0_add_49 : uX0_add 49 = some [true, false, false, false, true, true, true, true, false] := rfl
theorem bX0_add_62 : bX0_add 62 = [(.iload 8, 2), (.iconst 3, 1), (.if_icmp .ge 33, 3), (.aload_n 0, 1), (.iload 5, 2), (.iconst 4, 1), (.iconst 3, 1), (.iload 7, 2), (.imul, 1), (.iadd, 1), (.iload 8, 2), (.iadd, 1), (.aload 4, 2), (.iload 7, 2), (.iload 8, 2), (.invokevirtual 40, 3), (.invokevirtual 27, 3), (.iinc 8 1, 3), (.goto (-33), 3)] := rfl
theorem uX0_add_62 : uX0_add 62 = some [true, false, false, false, true, true, true, true, true] := rfl
theorem bX0_add_98 : bX0_add 98 = [(.iload 6, 2), (.aload 4, 2), (.iload 7, 2), (.iconst 0, 1), (.invokevirtual 40, 3), (.aload_n 0, 1), (.iload 5, 2), (.iload 7, 2), (.invokevirtual 43, 3), (.invokestatic 46, 3), (.istore 6, 2), (.iinc 7 1, 3), (.goto (-75), 3)] := rfl
theorem uX0_add_98 : uX0_add 98 = none := rfl
theorem bX0_add_127 : bX0_add 127 = [(.aload_n 0, 1), (.iload 5, 2), (.bipush 16, 2), (.iload 6, 2), (.invokevirtual 27, 3), (.aload_n 0, 1), (.getfield 11, 3), (.iconst 0, 1), (.iload 5, 2), (.iconst 1, 1), (.iadd, 1), (.iastore, 1), (.iload 5, 2), (.ireturn, 1)] := rfl
theorem uX0_add_127 : uX0_add 127 = none := rfl
theorem aX0_add_23 : aX0_add 23 = some (1, false, 0, 0, C_X0_size) := rfl
theorem aX0_add_27 : aX0_add 27 = some (4, false, 0, 0, C_X0_putCell) := rfl
theorem aX0_add_40 : aX0_add 40 = some (3, false, 1, 0, C_X1_numberAt) := rfl
theorem aX0_add_43 : aX0_add 43 = some (3, false, 0, 0, C_X0_satisfyingValues) := rfl
theorem aX0_add_46 : aX0_add 46 = some (3, true, 0, 0, C_X7_narrowed) := rfl
set_option maxRecDepth 100000 in
set_option maxHeartbeats 4000000 in
theorem okX0_add : pvOkM fX0 aX0_add kX0 eX0 (some .int) bX0_add uX0_add 9 C_X0_add := by
  intro Q SW hc as z h hS hz
  unfold C_X0_add at h
  split at h
  · rename_i id q a r w
    obtain ⟨hid, ⟨rfl, hn, hg⟩, h2⟩ := h
    have hsh : pvSh id = Sum.inl 0 := by rcases hid with rfl | rfl <;> rfl
    obtain ⟨n, en⟩ : ∃ n : Nat, z.1 (id + 1) 0 = n := ⟨(z.1 (id + 1) 0).toNat, by omega⟩
    rw [en, Int.toNat_natCast] at h2
    rw [en] at hn
    have hw := hg.1
    have x18 : ¬ id = 18 := by omega
    have outer : ∀ (m i : Nat) (g : Nat → Int) (x : Int), (i : Int) + m = z.1 17 3 → adI (z.1 (id + 1)) n q a r (z.1 17 3) (z.1 19) g i 0 → (0 ≤ x ∧ x < 262144) → (∀ v : Int, 0 ≤ v ∧ v < 216 → (alF x v = true ↔ hoN (z.1 19) v i)) →
        SW 49 [some (vR id), none, none, none, some (vR 17), some (vI (n : Int)), some (vI x), some (vI (i : Int)), none] (pvSt z.1 (id + 1) g, z.2) := by
      intro m
      induction m using Nat.strongRecOn with
      | _ m ih =>
        intro i g x hi hinv hx hal
        have inner : ∀ (j c : Nat) (g : Nat → Int), c + j = 3 → (i : Int) < z.1 17 3 → adI (z.1 (id + 1)) n q a r (z.1 17 3) (z.1 19) g i c →
            SW 62 [some (vR id), none, none, none, some (vR 17), some (vI (n : Int)), some (vI x), some (vI (i : Int)), some (vI (c : Int))] (pvSt z.1 (id + 1) g, z.2) := by
          intro j
          induction j using Nat.strongRecOn with
          | _ j ihj =>
            intro c g hcj hin hinv
            have e17 : pvSt z.1 (id + 1) g 17 = z.1 17 := pvSt_ne (by omega)
            have e19 : pvSt z.1 (id + 1) g 19 = z.1 19 := pvSt_ne (by omega)
            have n0 : (3 + 17 * (n : Int) + (4 + 3 * (i : Int) + (c : Int))).toNat = 3 + 17 * n + (4 + 3 * i + c) := by omega
            have n1 : (3 * (i : Int) + (c : Int)).toNat = 3 * i + c := by omega
            have n2 : (3 * (i : Int) + 0).toNat = 3 * i := by omega
            have n5 : (5 + 3 * (i : Int)).toNat = 5 + 3 * i := by omega
            have n6 : (6 + 3 * (i : Int)).toNat = 6 + 3 * i := by omega
            obtain ⟨g1, g2, g3⟩ := hg.2 i hin
            refine hc 20 _ _ _ fun _ _ => ?_
            simp only [pvSt1]
            simp only [C_X0_putCell, C_X1_numberAt, C_X0_satisfyingValues, C_X7_narrowed, pvSt_eq, pvUp_st, e17, e19, n0, n1, n2, n5, n6, Int.toNat_natCast, x18, if_false, pvE_aload_n0, pvLA_s, pvLd, pvE_invokevirtual, pvC1_s, pvC2_s, pvAf_v, pvAf_x, pvPop, pvCs, pvCat, pvPush, aX0_add_23, pvSh_0, pvSh_1, pvSh_2, pvSh_3, pvSh_4, pvSh_5, pvSh_6, pvSh_7, pvSh_8, pvSh_9, pvSh_10, pvSh_11, pvSh_12, pvSh_13, pvSh_14, pvSh_15, pvSh_16, pvSh_17, pvSh_18, pvSh_19, pvSh_20, pvSh_21, pvSh_22, pvSh_23, pvSh_24, pvSh_25, pvSh_26, pvSh_27, pvSh_28, pvSh_29, pvSh_30, pvSh_31, pvSh_32, pvSh_33, pvSh_34, pvSh_35, pvSh_36, pvSh_37, pvSh_38, pvE_istore, pvS1, List.length_cons, List.length_nil, pvClr_i, pvClr_r, pvClr_l, pvClr_d, pvClr_f, pvClr_n, pvE_iload, pvLI_s, pvE_iconst, pvE_iload_n1, aX0_add_27, pvE_iload_n2, pvE_iload_n3, pvE_aload, pvE_getfield, pvGf_0, pvGf_1, pvGf_2, fX0_31, pvRf_0_0, pvRf_0_1, pvRf_0_2, pvRf_0_3, pvRf_0_4, pvRf_0_5, pvRf_0_6, pvRf_0_7, pvRf_0_8, pvRf_0_9, pvRf_0_10, pvRf_1_0, pvRf_3_0, pvRf_5_0, pvRf_5_1, pvRf_5_2, pvRf_9_0, pvRf_9_1, pvRf_9_2, pvRf_13_0, pvRf_13_1, pvRf_13_2, pvRf_17_0, pvRf_17_2, pvRf_20_0, pvRf_20_1, pvRf_20_2, pvRf_24_0, pvRf_24_1, pvRf_24_2, pvRf_28_0, pvRf_28_1, pvRf_28_2, pvRf_28_3, pvRf_33_0, pvRf_33_1, pvRf_36_0, pvRf_36_1, pvE_ldc (h0 := kX0_39), pvE_icmp_ge, pvE_imul, pvE_iadd, aX0_add_40, pvE_iinc, pvIc_s, pvE_goto, aX0_add_43, pvE_invokestatic (h0 := eX0_46), aX0_add_46, pvE_bipush, fX0_11, pvE_iastore, pvAI, pvE_ireturn, bX0_add_0, uX0_add_0, bX0_add_49, uX0_add_49, bX0_add_62, uX0_add_62, bX0_add_98, uX0_add_98, bX0_add_127, uX0_add_127, pvMk_t, pvMk_f, pvMk_n, pvRtG, pvRecv_r, pvUp_nl, pvUp_same, pvUp_ap, pvSt_ap, pvX_c, pvX_ms, pvX_mn, pvE_nil, pvEn_i, pvEn_r, pvEn_l, pvEn_0, pvEn_s, pvRt, pvRv, pvTh, pvKc, pvGo, pvTgt, Int.toNat_natCast, false_and, and_false, true_and, and_true, if_true, if_false, reduceIte, reduceCtorEq, forall_const, false_or, or_false, true_or, or_true, ne_eq, not_true_eq_false, not_false_eq_true, implies_true, false_implies, Nat.reduceAdd, Nat.reduceSub, Nat.reduceMul, Nat.reduceEqDiff, Nat.reduceLT, Nat.reduceLeDiff, Int.reduceAdd, Int.reduceSub, Int.reduceMul, Int.reduceNeg, Int.reduceToNat, Int.reduceLE, Int.reduceLT, Int.reduceEq, Int.reduceNe, and_self]
            by_cases hcx : 3 ≤ c
            · have c5 : cT g n (5 + 3 * i) = z.1 19 (3 * i + 1) := by
                have := hinv.2.2.2 i 1 (by omega) (by omega)
                rw [show 5 + 3 * i = 4 + 3 * i + 1 by omega]; exact this
              have c6 : cT g n (6 + 3 * i) = z.1 19 (3 * i + 2) := by
                have := hinv.2.2.2 i 2 (by omega) (by omega)
                rw [show 6 + 3 * i = 4 + 3 * i + 2 by omega]; exact this
              have s := smF_r (z.1 19 (3 * i + 1)) (z.1 19 (3 * i + 2))
              have k := ih (m - 1) (by omega) (i + 1) g _ (by omega) (adI_n hinv hcx) (nwF_r hx) (fun v hv => nw_ho hg hin hx hv (hal v hv))
              rw [c5, c6]
              (repeat' (first | with_reducible apply And.intro | intro _))
              all_goals first
                | omega
                | assumption
                | exact k
            · have k := ihj (j - 1) (by omega) (c + 1) _ (by omega) hin (adI_s hinv (by omega) (by omega))
              (repeat' (first | with_reducible apply And.intro | intro _))
              all_goals first
                | omega
                | assumption
                | exact k
        have e17 : pvSt z.1 (id + 1) g 17 = z.1 17 := pvSt_ne (by omega)
        have n16 : (3 + 17 * (n : Int) + 16).toNat = 3 + 17 * n + 16 := by omega
        refine hc 20 _ _ _ fun _ _ => ?_
        by_cases hxi : z.1 17 3 ≤ i
        · have ei : i = (z.1 17 3).toNat := by omega
          rw [← ei] at h2
          have k := h2 g x hinv hx hal
          clear ih hc inner h2
          rcases hid with rfl | rfl <;> simp only [Nat.reduceAdd] at k e17 ⊢ <;>
          (simp only [pvSt1]
           simp only [C_X0_putCell, pvUp_st, e17, n16, pvE_aload_n0, pvLA_s, pvLd, pvE_invokevirtual, pvC1_s, pvC2_s, pvAf_v, pvAf_x, pvPop, pvCs, pvCat, pvPush, aX0_add_23, pvSh_0, pvSh_1, pvSh_2, pvSh_3, pvSh_4, pvSh_5, pvSh_6, pvSh_7, pvSh_8, pvSh_9, pvSh_10, pvSh_11, pvSh_12, pvSh_13, pvSh_14, pvSh_15, pvSh_16, pvSh_17, pvSh_18, pvSh_19, pvSh_20, pvSh_21, pvSh_22, pvSh_23, pvSh_24, pvSh_25, pvSh_26, pvSh_27, pvSh_28, pvSh_29, pvSh_30, pvSh_31, pvSh_32, pvSh_33, pvSh_34, pvSh_35, pvSh_36, pvSh_37, pvSh_38, pvE_istore, pvS1, List.length_cons, List.length_nil, pvClr_i, pvClr_r, pvClr_l, pvClr_d, pvClr_f, pvClr_n, pvE_iload, pvLI_s, pvE_iconst, pvE_iload_n1, aX0_add_27, pvE_iload_n2, pvE_iload_n3, pvE_aload, pvE_getfield, pvGf_0, pvGf_1, pvGf_2, fX0_31, pvRf_0_0, pvRf_0_1, pvRf_0_2, pvRf_0_3, pvRf_0_4, pvRf_0_5, pvRf_0_6, pvRf_0_7, pvRf_0_8, pvRf_0_9, pvRf_0_10, pvRf_1_0, pvRf_3_0, pvRf_5_0, pvRf_5_1, pvRf_5_2, pvRf_9_0, pvRf_9_1, pvRf_9_2, pvRf_13_0, pvRf_13_1, pvRf_13_2, pvRf_17_0, pvRf_17_2, pvRf_20_0, pvRf_20_1, pvRf_20_2, pvRf_24_0, pvRf_24_1, pvRf_24_2, pvRf_28_0, pvRf_28_1, pvRf_28_2, pvRf_28_3, pvRf_33_0, pvRf_33_1, pvRf_36_0, pvRf_36_1, pvE_ldc (h0 := kX0_39), pvE_icmp_ge, pvE_imul, pvE_iadd, aX0_add_40, pvE_iinc, pvIc_s, pvE_goto, aX0_add_43, pvE_invokestatic (h0 := eX0_46), aX0_add_46, pvE_bipush, fX0_11, pvE_iastore, pvAI, pvE_ireturn, bX0_add_0, uX0_add_0, bX0_add_49, uX0_add_49, bX0_add_62, uX0_add_62, bX0_add_98, uX0_add_98, bX0_add_127, uX0_add_127, pvMk_t, pvMk_f, pvMk_n, pvRtG, pvRecv_r, pvUp_nl, pvUp_same, pvUp_ap, pvSt_ap, pvX_c, pvX_ms, pvX_mn, pvE_nil, pvEn_i, pvEn_r, pvEn_l, pvEn_0, pvEn_s, pvRt, pvRv, pvTh, pvKc, pvGo, pvTgt, Int.toNat_natCast, false_and, and_false, true_and, and_true, if_true, if_false, reduceIte, reduceCtorEq, forall_const, false_or, or_false, true_or, or_true, ne_eq, not_true_eq_false, not_false_eq_true, implies_true, false_implies, Nat.reduceAdd, Nat.reduceSub, Nat.reduceMul, Nat.reduceEqDiff, Nat.reduceLT, Nat.reduceLeDiff, Int.reduceAdd, Int.reduceSub, Int.reduceMul, Int.reduceNeg, Int.reduceToNat, Int.reduceLE, Int.reduceLT, Int.reduceEq, Int.reduceNe, and_self]
           (repeat' (first | with_reducible apply And.intro | intro _))
           all_goals first
             | omega
             | assumption
             | exact k)
        · have k := inner 3 0 g (by omega) (by omega) hinv
          simp only [pvSt1]
          simp only [C_X0_putCell, pvUp_st, e17, n16, pvE_aload_n0, pvLA_s, pvLd, pvE_invokevirtual, pvC1_s, pvC2_s, pvAf_v, pvAf_x, pvPop, pvCs, pvCat, pvPush, aX0_add_23, pvSh_0, pvSh_1, pvSh_2, pvSh_3, pvSh_4, pvSh_5, pvSh_6, pvSh_7, pvSh_8, pvSh_9, pvSh_10, pvSh_11, pvSh_12, pvSh_13, pvSh_14, pvSh_15, pvSh_16, pvSh_17, pvSh_18, pvSh_19, pvSh_20, pvSh_21, pvSh_22, pvSh_23, pvSh_24, pvSh_25, pvSh_26, pvSh_27, pvSh_28, pvSh_29, pvSh_30, pvSh_31, pvSh_32, pvSh_33, pvSh_34, pvSh_35, pvSh_36, pvSh_37, pvSh_38, pvE_istore, pvS1, List.length_cons, List.length_nil, pvClr_i, pvClr_r, pvClr_l, pvClr_d, pvClr_f, pvClr_n, pvE_iload, pvLI_s, pvE_iconst, pvE_iload_n1, aX0_add_27, pvE_iload_n2, pvE_iload_n3, pvE_aload, pvE_getfield, pvGf_0, pvGf_1, pvGf_2, fX0_31, pvRf_0_0, pvRf_0_1, pvRf_0_2, pvRf_0_3, pvRf_0_4, pvRf_0_5, pvRf_0_6, pvRf_0_7, pvRf_0_8, pvRf_0_9, pvRf_0_10, pvRf_1_0, pvRf_3_0, pvRf_5_0, pvRf_5_1, pvRf_5_2, pvRf_9_0, pvRf_9_1, pvRf_9_2, pvRf_13_0, pvRf_13_1, pvRf_13_2, pvRf_17_0, pvRf_17_2, pvRf_20_0, pvRf_20_1, pvRf_20_2, pvRf_24_0, pvRf_24_1, pvRf_24_2, pvRf_28_0, pvRf_28_1, pvRf_28_2, pvRf_28_3, pvRf_33_0, pvRf_33_1, pvRf_36_0, pvRf_36_1, pvE_ldc (h0 := kX0_39), pvE_icmp_ge, pvE_imul, pvE_iadd, aX0_add_40, pvE_iinc, pvIc_s, pvE_goto, aX0_add_43, pvE_invokestatic (h0 := eX0_46), aX0_add_46, pvE_bipush, fX0_11, pvE_iastore, pvAI, pvE_ireturn, bX0_add_0, uX0_add_0, bX0_add_49, uX0_add_49, bX0_add_62, uX0_add_62, bX0_add_98, uX0_add_98, bX0_add_127, uX0_add_127, pvMk_t, pvMk_f, pvMk_n, pvRtG, pvRecv_r, pvUp_nl, pvUp_same, pvUp_ap, pvSt_ap, pvX_c, pvX_ms, pvX_mn, pvE_nil, pvEn_i, pvEn_r, pvEn_l, pvEn_0, pvEn_s, pvRt, pvRv, pvTh, pvKc, pvGo, pvTgt, Int.toNat_natCast, false_and, and_false, true_and, and_true, if_true, if_false, reduceIte, reduceCtorEq, forall_const, false_or, or_false, true_or, or_true, ne_eq, not_true_eq_false, not_false_eq_true, implies_true, false_implies, Nat.reduceAdd, Nat.reduceSub, Nat.reduceMul, Nat.reduceEqDiff, Nat.reduceLT, Nat.reduceLeDiff, Int.reduceAdd, Int.reduceSub, Int.reduceMul, Int.reduceNeg, Int.reduceToNat, Int.reduceLE, Int.reduceLT, Int.reduceEq, Int.reduceNe, and_self]
          (repeat' (first | with_reducible apply And.intro | intro _))
          all_goals first
            | omega
            | assumption
            | exact k
    have e0 : (3 + 17 * (n : Int) + 0).toNat = 3 + 17 * n + 0 := by omega
    have e1 : (3 + 17 * (n : Int) + 1).toNat = 3 + 17 * n + 1 := by omega
    have e2 : (3 + 17 * (n : Int) + 2).toNat = 3 + 17 * n + 2 := by omega
    have e3 : (3 + 17 * (n : Int) + 3).toNat = 3 + 17 * n + 3 := by omega
    have x16 : ¬ id = 16 := by omega
    have st : pvUp z.1 (id + 1) (3 + 17 * n + 0) q = pvSt z.1 (id + 1) (fun j => if j = 3 + 17 * n + 0 then q else z.1 (id + 1) j) := by
      have := pvUp_st (f := z.1) (i := id + 1) (k := 3 + 17 * n + 0) (g := z.1 (id + 1)) (v := q)
      rwa [pvSt_self] at this
    have k := outer (z.1 17 3).toNat 0 (fun j => if j = 3 + 17 * n + 3 then z.1 17 3 else if j = 3 + 17 * n + 2 then r else if j = 3 + 17 * n + 1 then a else if j = 3 + 17 * n + 0 then q else z.1 (id + 1) j) 262143 (by omega) (by
      refine ⟨fun j hj => ?_, fun t c' ht hc' => ?_, ⟨?_, ?_, ?_, ?_⟩, fun k c' _ hk => by omega⟩
      · show (if j = _ then _ else if j = _ then _ else if j = _ then _ else if j = _ then _ else _) = _
        rw [if_neg (by omega), if_neg (by omega), if_neg (by omega), if_neg (by omega)]
      all_goals
        show (if _ = _ then _ else if _ = _ then _ else if _ = _ then _ else if _ = _ then _ else _) = _
        simp (disch := omega) only [if_neg, if_pos]
        try rfl) (by decide) (fun v hv => ⟨fun _ j hj => absurd hj (Nat.not_lt_zero j), fun _ => al_any hv⟩)
    refine ⟨Nat.le_of_ble_eq_true rfl, hc 20 _ _ _ fun _ _ => ?_⟩
    clear hc outer h2
    simp only [pvSt1]
    simp only [C_X0_size, C_X0_putCell, en, e0, e1, e2, e3, st, pvUp_st, x16, pvE_aload_n0, pvLA_s, pvLd, pvE_invokevirtual, pvC1_s, pvC2_s, pvAf_v, pvAf_x, pvPop, pvCs, pvCat, pvPush, aX0_add_23, pvSh_0, pvSh_1, pvSh_2, pvSh_3, pvSh_4, pvSh_5, pvSh_6, pvSh_7, pvSh_8, pvSh_9, pvSh_10, pvSh_11, pvSh_12, pvSh_13, pvSh_14, pvSh_15, pvSh_16, pvSh_17, pvSh_18, pvSh_19, pvSh_20, pvSh_21, pvSh_22, pvSh_23, pvSh_24, pvSh_25, pvSh_26, pvSh_27, pvSh_28, pvSh_29, pvSh_30, pvSh_31, pvSh_32, pvSh_33, pvSh_34, pvSh_35, pvSh_36, pvSh_37, pvSh_38, pvE_istore, pvS1, List.length_cons, List.length_nil, pvClr_i, pvClr_r, pvClr_l, pvClr_d, pvClr_f, pvClr_n, pvE_iload, pvLI_s, pvE_iconst, pvE_iload_n1, aX0_add_27, pvE_iload_n2, pvE_iload_n3, pvE_aload, pvE_getfield, pvGf_0, pvGf_1, pvGf_2, fX0_31, pvRf_0_0, pvRf_0_1, pvRf_0_2, pvRf_0_3, pvRf_0_4, pvRf_0_5, pvRf_0_6, pvRf_0_7, pvRf_0_8, pvRf_0_9, pvRf_0_10, pvRf_1_0, pvRf_3_0, pvRf_5_0, pvRf_5_1, pvRf_5_2, pvRf_9_0, pvRf_9_1, pvRf_9_2, pvRf_13_0, pvRf_13_1, pvRf_13_2, pvRf_17_0, pvRf_17_2, pvRf_20_0, pvRf_20_1, pvRf_20_2, pvRf_24_0, pvRf_24_1, pvRf_24_2, pvRf_28_0, pvRf_28_1, pvRf_28_2, pvRf_28_3, pvRf_33_0, pvRf_33_1, pvRf_36_0, pvRf_36_1, pvE_ldc (h0 := kX0_39), pvE_icmp_ge, pvE_imul, pvE_iadd, aX0_add_40, pvE_iinc, pvIc_s, pvE_goto, aX0_add_43, pvE_invokestatic (h0 := eX0_46), aX0_add_46, pvE_bipush, fX0_11, pvE_iastore, pvAI, pvE_ireturn, bX0_add_0, uX0_add_0, bX0_add_49, uX0_add_49, bX0_add_62, uX0_add_62, bX0_add_98, uX0_add_98, bX0_add_127, uX0_add_127, pvMk_t, pvMk_f, pvMk_n, pvRtG, pvRecv_r, pvUp_nl, pvUp_same, pvUp_ap, pvSt_ap, pvX_c, pvX_ms, pvX_mn, pvE_nil, pvEn_i, pvEn_r, pvEn_l, pvEn_0, pvEn_s, pvRt, pvRv, pvTh, pvKc, pvGo, pvTgt, Int.toNat_natCast, false_and, and_false, true_and, and_true, if_true, if_false, reduceIte, reduceCtorEq, forall_const, false_or, or_false, true_or, or_true, ne_eq, not_true_eq_false, not_false_eq_true, implies_true, false_implies, Nat.reduceAdd, Nat.reduceSub, Nat.reduceMul, Nat.reduceEqDiff, Nat.reduceLT, Nat.reduceLeDiff, Int.reduceAdd, Int.reduceSub, Int.reduceMul, Int.reduceNeg, Int.reduceToNat, Int.reduceLE, Int.reduceLT, Int.reduceEq, Int.reduceNe, and_self]
    (repeat' (first | with_reducible apply And.intro | intro _))
    all_goals first
      | omega
      | assumption
      | exact k
  · exact h.elim

