def C_X0_statesBehind : pvC
  | [.inr (.inr (.inl id)), .inl set, .inl a, .inl v], z, Q => (id = 1 ∨ id = 3) ∧ (WfC (z.1 (id + 1)) ∧ (0 ≤ set ∧ set ≤ 15) ∧ 0 ≤ v ∧ v < 216) ∧ Q (.inl (some (vI (sbF (autC (z.1 (id + 1))) set a v)))) z
  | _, _, _ => False
def bX0_statesBehind : Nat → List (Instr × Nat)
  | 0 => [(.iconst 0, 1), (.istore 4, 2), (.iconst 0, 1), (.istore 5, 2)]
  | 6 => [(.iload 5, 2), (.aload_n 0, 1), (.invokevirtual 23, 3), (.if_icmp .ge 48, 3), (.iload_n 1, 1), (.aload_n 0, 1), (.iload 5, 2), (.iconst 0, 1), (.invokevirtual 19, 3), (.invokestatic 78, 3), (.ifCond .eq 28, 3), (.aload_n 0, 1), (.iload 5, 2), (.iload_n 2, 1), (.iload_n 3, 1), (.invokevirtual 81, 3), (.ifCond .eq 17, 3), (.iload 4, 2), (.iconst 1, 1), (.aload_n 0, 1), (.iload 5, 2), (.iconst 2, 1), (.invokevirtual 19, 3), (.ishl, 1), (.ior, 1), (.istore 4, 2)]
  | 54 => [(.iinc 5 1, 3), (.goto (-51), 3)]
  | 60 => [(.iload 4, 2), (.ireturn, 1)]
  | _ => []
def uX0_statesBehind : Nat → Option (List Bool)
  | 6 => some [true, true, true, true, true, true]
  | _ => none
def aX0_statesBehind : pvCa
  | 19 => some (3, false, 0, 0, C_X0_cell)
  | 23 => some (1, false, 0, 0, C_X0_size)
  | 78 => some (2, true, 0, 0, C_X9_hasState)
  | 81 => some (4, false, 0, 0, C_X0_canRead)
  | _ => none
theorem bX0_statesBehind_0 : bX0_statesBehind 0 = [(.iconst 0, 1), (.istore 4, 2), (.iconst 0, 1), (.istore 5, 2)] := rfl
theorem uX0_statesBehind_0 : uX0_statesBehind 0 = none := rfl
theorem bX0_statesBehind_6 : bX0_statesBehind 6 = [(.iload 5, 2), (.aload_n 0, 1), (.invokevirtual 23, 3), (.if_icmp .ge 48, 3), (.iload_n 1, 1), (.aload_n 0, 1), (.iload 5, 2), (.iconst 0, 1), (.invokevirtual 19, 3), (.invokestatic 78, 3), (.ifCond .eq 28, 3), (.aload_n 0, 1), (.iload 5, 2), (.iload_n 2, 1), (.iload_n 3, 1), (.invokevirtual 81, 3), (.ifCond .eq 17, 3), (.iload 4, 2), (.iconst 1, 1), (.aload_n 0, 1), (.iload 5, 2), (.iconst 2, 1), (.invokevirtual 19, 3), (.ishl, 1), (.ior, 1), (.istore 4, 2)] := rfl
theorem uX0_statesBehind_6 : uX0_statesBehind 6 = some [true, true, true, true, true, true] := rfl
theorem bX0_statesBehind_54 : bX0_statesBehind 54 = [(.iinc 5 1, 3), (.goto (-51), 3)] := rfl
theorem uX0_statesBehind_54 : uX0_statesBehind 54 = none := rfl
theorem bX0_statesBehind_60 : bX0_statesBehind 60 = [(.iload 4, 2), (.ireturn, 1)] := rfl
theorem uX0_statesBehind_60 : uX0_statesBehind 60 = none := rfl
theorem aX0_statesBehind_19 : aX0_statesBehind 19 = some (3, false, 0, 0, C_X0_cell) := rfl
theorem aX0_statesBehind_23 : aX0_statesBehind 23 = some (1, false, 0, 0, C_X0_size) := rfl
theorem aX0_statesBehind_78 : aX0_statesBehind 78 = some (2, true, 0, 0, C_X9_hasState) := rfl
theorem aX0_statesBehind_81 : aX0_statesBehind 81 = some (4, false, 0, 0, C_X0_canRead) := rfl
set_option maxRecDepth 100000 in
set_option maxHeartbeats 4000000 in
theorem okX0_statesBehind : pvOkM fX0 aX0_statesBehind kX0 eX0 (some .int) bX0_statesBehind uX0_statesBehind 6 C_X0_statesBehind := by
  intro Q SW hc as z h hS hz
  unfold C_X0_statesBehind at h
  split at h
  · rename_i id set a v
    obtain ⟨hid, ⟨hw, hset, hv⟩, h2⟩ := h
    have hsh : pvSh id = Sum.inl 0 := by rcases hid with rfl | rfl <;> rfl
    have hn : 0 ≤ z.1 (id + 1) 0 ∧ z.1 (id + 1) 0 ≤ 10 := hw.1.1
    have hr := fun k (hk : k ≤ (autC (z.1 (id + 1))).1.toNat) => sbK_r (n := (autC (z.1 (id + 1))).1.toNat) (fun t ht => (hw.1.2.2.2 t (by omega)).2.2.1) set a v k hk
    have loop : ∀ (m k : Nat), (k : Int) + m = z.1 (id + 1) 0 → SW 6 [some (vR id), some (vI set), some (vI a), some (vI v), some (vI (sbK (autC (z.1 (id + 1))).2.2.2 set a v k)), some (vI (k : Int))] z := by
      intro m
      induction m using Nat.strongRecOn with
      | _ m ih =>
        intro k hk
        have hrk := hr k (by show k ≤ (z.1 (id + 1) 0).toNat; omega)
        refine hc 20 _ _ _ fun _ _ => ?_
        simp only [pvSt1]
        simp only [C_X0_size, C_X0_cell, C_X9_hasState, C_X0_canRead, pvE_iconst, pvE_istore, pvS1, List.length_cons, List.length_nil, pvClr_i, pvClr_r, pvClr_l, pvClr_d, pvClr_f, pvClr_n, pvE_iload, pvLI_s, pvLd, pvE_aload_n0, pvLA_s, pvE_invokevirtual, pvC1_s, pvC2_s, pvAf_v, pvAf_x, pvPop, pvCs, pvCat, pvPush, aX0_statesBehind_23, pvSh_0, pvSh_1, pvSh_2, pvSh_3, pvSh_4, pvSh_5, pvSh_6, pvSh_7, pvSh_8, pvSh_9, pvSh_10, pvSh_11, pvSh_12, pvSh_13, pvSh_14, pvSh_15, pvSh_16, pvSh_17, pvSh_18, pvSh_19, pvSh_20, pvSh_21, pvSh_22, pvSh_23, pvSh_24, pvSh_25, pvSh_26, pvSh_27, pvSh_28, pvSh_29, pvSh_30, pvSh_31, pvSh_32, pvSh_33, pvSh_34, pvSh_35, pvSh_36, pvSh_37, pvSh_38, pvE_icmp_ge, pvE_iload_n1, aX0_statesBehind_19, pvE_invokestatic (h0 := eX0_78), aX0_statesBehind_78, pvE_if_eq, pvE_iload_n2, pvE_iload_n3, aX0_statesBehind_81, pvE_ishl, pvE_ior, pvE_iinc, pvIc_s, pvE_goto, pvE_ireturn, bX0_statesBehind_0, uX0_statesBehind_0, bX0_statesBehind_6, uX0_statesBehind_6, bX0_statesBehind_54, uX0_statesBehind_54, bX0_statesBehind_60, uX0_statesBehind_60, pvMk_t, pvMk_f, pvMk_n, pvRtG, pvRecv_r, pvUp_nl, pvUp_same, pvUp_ap, pvSt_ap, pvX_c, pvX_ms, pvX_mn, pvE_nil, pvEn_i, pvEn_r, pvEn_l, pvEn_0, pvEn_s, pvRt, pvRv, pvTh, pvKc, pvGo, pvTgt, Int.toNat_natCast, false_and, and_false, true_and, and_true, if_true, if_false, reduceIte, reduceCtorEq, forall_const, false_or, or_false, true_or, or_true, ne_eq, not_true_eq_false, not_false_eq_true, implies_true, false_implies, Nat.reduceAdd, Nat.reduceSub, Nat.reduceMul, Nat.reduceEqDiff, Nat.reduceLT, Nat.reduceLeDiff, Int.reduceAdd, Int.reduceSub, Int.reduceMul, Int.reduceNeg, Int.reduceToNat, Int.reduceLE, Int.reduceLT, Int.reduceEq, Int.reduceNe, and_self]
        by_cases hkn : z.1 (id + 1) 0 ≤ k
        · obtain rfl : k = (z.1 (id + 1) 0).toNat := by omega
          (repeat' (first | with_reducible apply And.intro | intro _))
          all_goals first
            | omega
            | exact h2
        · have hT := autC_w hw (t := k) (by omega)
          have e0 := hT.1
          have e2 := hT.2.2.1
          have e := autC_T (f := z.1 (id + 1)) (t := k) (by show (k : Int) < z.1 (id + 1) 0; omega)
          have ihk : SW 6 [some (vR id), some (vI set), some (vI a), some (vI v), some (vI (sbK (autC (z.1 (id + 1))).2.2.2 set a v (k + 1))), some (vI ((k : Int) + 1))] z := ih (m - 1) (by omega) (k + 1) (by omega)
          simp only [sbK, e, nrT_s (show 0 < 4 by decide), nrT_s (show 1 < 4 by decide), nrT_s (show 2 < 4 by decide), blF_nr] at ihk
          (repeat' (first | with_reducible apply And.intro | intro _))
          all_goals first
            | omega
            | assumption
            | grind
    refine ⟨Nat.le_of_ble_eq_true rfl, hc 20 _ _ _ fun _ _ => ?_⟩
    simp only [pvSt1]
    simp only [pvE_iconst, pvE_istore, pvS1, List.length_cons, List.length_nil, pvClr_i, pvClr_r, pvClr_l, pvClr_d, pvClr_f, pvClr_n, pvE_iload, pvLI_s, pvLd, pvE_aload_n0, pvLA_s, pvE_invokevirtual, pvC1_s, pvC2_s, pvAf_v, pvAf_x, pvPop, pvCs, pvCat, pvPush, aX0_statesBehind_23, pvSh_0, pvSh_1, pvSh_2, pvSh_3, pvSh_4, pvSh_5, pvSh_6, pvSh_7, pvSh_8, pvSh_9, pvSh_10, pvSh_11, pvSh_12, pvSh_13, pvSh_14, pvSh_15, pvSh_16, pvSh_17, pvSh_18, pvSh_19, pvSh_20, pvSh_21, pvSh_22, pvSh_23, pvSh_24, pvSh_25, pvSh_26, pvSh_27, pvSh_28, pvSh_29, pvSh_30, pvSh_31, pvSh_32, pvSh_33, pvSh_34, pvSh_35, pvSh_36, pvSh_37, pvSh_38, pvE_icmp_ge, pvE_iload_n1, aX0_statesBehind_19, pvE_invokestatic (h0 := eX0_78), aX0_statesBehind_78, pvE_if_eq, pvE_iload_n2, pvE_iload_n3, aX0_statesBehind_81, pvE_ishl, pvE_ior, pvE_iinc, pvIc_s, pvE_goto, pvE_ireturn, bX0_statesBehind_0, uX0_statesBehind_0, bX0_statesBehind_6, uX0_statesBehind_6, bX0_statesBehind_54, uX0_statesBehind_54, bX0_statesBehind_60, uX0_statesBehind_60, pvMk_t, pvMk_f, pvMk_n, pvRtG, pvRecv_r, pvUp_nl, pvUp_same, pvUp_ap, pvSt_ap, pvX_c, pvX_ms, pvX_mn, pvE_nil, pvEn_i, pvEn_r, pvEn_l, pvEn_0, pvEn_s, pvRt, pvRv, pvTh, pvKc, pvGo, pvTgt, Int.toNat_natCast, false_and, and_false, true_and, and_true, if_true, if_false, reduceIte, reduceCtorEq, forall_const, false_or, or_false, true_or, or_true, ne_eq, not_true_eq_false, not_false_eq_true, implies_true, false_implies, Nat.reduceAdd, Nat.reduceSub, Nat.reduceMul, Nat.reduceEqDiff, Nat.reduceLT, Nat.reduceLeDiff, Int.reduceAdd, Int.reduceSub, Int.reduceMul, Int.reduceNeg, Int.reduceToNat, Int.reduceLE, Int.reduceLT, Int.reduceEq, Int.reduceNe, and_self]
    (repeat' (first | with_reducible apply And.intro | intro _))
    all_goals first
      | omega
      | exact loop (z.1 (id + 1) 0).toNat 0 (by omega)
  · exact h.elim
def saK (T : Nat → Nat → Int) (set a v : Int) : Nat → Int
  | 0 => 0
  | k + 1 => if btF set (T k 2) = true ∧ T k 1 = a ∧ blF (T k) v < 0 then pvOr (saK T set a v k) (pvShl 1 (T k 0)) else saK T set a v k
/-- the states from which an event leads into a set -/
def saF (A : Aut) (set a v : Int) : Int := saK A.2.2.2 set a v A.1.toNat
theorem saK_r {T : Nat → Nat → Int} {n : Nat} (h : ∀ t, t < n → 0 ≤ T t 0 ∧ T t 0 ≤ 3) (set a v : Int) (k : Nat) (hk : k ≤ n) : 0 ≤ saK T set a v k ∧ saK T set a v k ≤ 15 := by
  induction k with
  | zero => exact ⟨Int.le_refl 0, by show (0 : Int) ≤ 15; decide⟩
  | succ k ih =>
    simp only [saK]
    split
    · exact or15 (ih (by omega)) (h k (by omega))
    · exact ih (by omega)
theorem saF_r {A : Aut} (h : WfA A) (set a v : Int) : 0 ≤ saF A set a v ∧ saF A set a v ≤ 15 :=
  saK_r (n := A.1.toNat) (fun t ht => (h.2.2.2 t (by omega)).1) set a v _ (Nat.le_refl _)
theorem sm_bit {k n x : Int} (hk : 0 ≤ k ∧ k ≤ 6) (hn : 0 ≤ n ∧ n ≤ 3) (hx : 0 ≤ x ∧ x ≤ 5) : btF (smF k n) x = hdF k n x := by
  obtain ⟨a, rfl⟩ := fin_of (a := k) (n := 7) (by omega)
  obtain ⟨b, rfl⟩ := fin_of (a := n) (n := 4) (by omega)
  obtain ⟨c, rfl⟩ := fin_of (a := x) (n := 6) (by omega)
  exact smF_bit a b c
/-- the class's word: well formed, and the valuation read with each event -/
def WcF (z : Nat → Nat → Int) : Prop := WdF (z 20 4) (z 21) (z 22) ∧ ∀ k : Nat, (k : Int) < z 20 4 → z 23 k = psF (vaF (z 21) (z 22) k) (z 21 k)
theorem WcF_v {z : Nat → Nat → Int} (h : WcF z) {k : Nat} (hk : (k : Int) < z 20 4) : 0 ≤ z 23 k ∧ z 23 k < 216 := by
  rw [h.2 k hk]
  have := (h.1.2 k hk).1
  exact psF_r (by have := vaF_r h.1 k (by omega); omega)
def C_X0_statesAfterEvents : pvC
  | [.inr (.inr (.inl id)), .inr (.inr (.inl w)), .inl n], z, Q => (id = 1 ∨ id = 3) ∧ (w = 20 ∧ WfC (z.1 (id + 1)) ∧ WcF z.1 ∧ 0 ≤ n ∧ n ≤ z.1 20 4) ∧ Q (.inl (some (vI (afK (autC (z.1 (id + 1))) (z.1 21) (z.1 22) n.toNat)))) z
  | _, _, _ => False
def bX0_statesAfterEvents : Nat → List (Instr × Nat)
  | 0 => [(.aload_n 0, 1), (.invokevirtual 85, 3), (.istore_n 3, 1), (.iconst 0, 1), (.istore 4, 2)]
  | 8 => [(.iload 4, 2), (.iload_n 2, 1), (.if_icmp .ge 27, 3), (.aload_n 0, 1), (.iload_n 3, 1), (.aload_n 1, 1), (.iload 4, 2), (.invokevirtual 88, 3), (.aload_n 1, 1), (.iload 4, 2), (.invokevirtual 93, 3), (.invokevirtual 96, 3), (.istore_n 3, 1), (.iinc 4 1, 3), (.goto (-27), 3)]
  | 38 => [(.iload_n 3, 1), (.ireturn, 1)]
  | _ => []
def uX0_statesAfterEvents : Nat → Option (List Bool)
  | 8 => some [true, true, true, true, true]
  | _ => none
def aX0_statesAfterEvents : pvCa
  | 85 => some (1, false, 0, 0, C_X0_initialStates)
  | 88 => some (2, false, 6, 0, C_X6_letterAt)
  | 93 => some (2, false, 6, 0, C_X6_valuationAt)
  | 96 => some (4, false, 0, 0, C_X0_statesBehind)
  | _ => none
theorem bX0_statesAfterEvents_0 : bX0_statesAfterEvents 0 = [(.aload_n 0, 1), (.invokevirtual 85, 3), (.istore_n 3, 1), (.iconst 0, 1), (.istore 4, 2)] := rfl
theorem uX0_statesAfterEvents_0 : uX0_statesAfterEvents 0 = none := rfl
theorem bX0_statesAfterEvents_8 : bX0_statesAfterEvents 8 = [(.iload 4, 2), (.iload_n 2, 1), (.if_icmp .ge 27, 3), (.aload_n 0, 1), (.iload_n 3, 1), (.aload_n 1, 1), (.iload 4, 2), (.invokevirtual 88, 3), (.aload_n 1, 1), (.iload 4, 2), (.invokevirtual 93, 3), (.invokevirtual 96, 3), (.istore_n 3, 1), (.iinc 4 1, 3), (.goto (-27), 3)] := rfl
theorem uX0_statesAfterEvents_8 : uX0_statesAfterEvents 8 = some [true, true, true, true, true] := rfl
theorem bX0_statesAfterEvents_38 : bX0_statesAfterEvents 38 = [(.iload_n 3, 1), (.ireturn, 1)] := rfl
theorem uX0_statesAfterEvents_38 : uX0_statesAfterEvents 38 = none := rfl
theorem aX0_statesAfterEvents_85 : aX0_statesAfterEvents 85 = some (1, false, 0, 0, C_X0_initialStates) := rfl
theorem aX0_statesAfterEvents_88 : aX0_statesAfterEvents 88 = some (2, false, 6, 0, C_X6_letterAt) := rfl
theorem aX0_statesAfterEvents_93 : aX0_statesAfterEvents 93 = some (2, false, 6, 0, C_X6_valuationAt) := rfl
theorem aX0_statesAfterEvents_96 : aX0_statesAfterEvents 96 = some (4, false, 0, 0, C_X0_statesBehind) := rfl
set_option maxRecDepth 100000 in
set_option maxHeartbeats 4000000 in
theorem okX0_statesAfterEvents : pvOkM fX0 aX0_statesAfterEvents kX0 eX0 (some .int) bX0_statesAfterEvents uX0_statesAfterEvents 5 C_X0_statesAfterEvents := by
  intro Q SW hc as z h hS hz
  unfold C_X0_statesAfterEvents at h
  split at h
  · rename_i id w n
    obtain ⟨hid, ⟨rfl, hw, hd, hn⟩, h2⟩ := h
    obtain ⟨n, rfl⟩ : ∃ k : Nat, n = k := ⟨n.toNat, by omega⟩
    have hsh : pvSh id = Sum.inl 0 := by rcases hid with rfl | rfl <;> rfl
    have hd1 := hd.1.1
    rw [Int.toNat_natCast] at h2
    have loop : ∀ (m k : Nat), k + m = n → SW 8 [some (vR id), some (vR 20), some (vI (n : Int)), some (vI (afK (autC (z.1 (id + 1))) (z.1 21) (z.1 22) k)), some (vI (k : Int))] z := by
      intro m
      induction m using Nat.strongRecOn with
      | _ m ih =>
        intro k hk
        have ha := afK_r hw.1 (z.1 21) (z.1 22) k
        refine hc 20 _ _ _ fun _ _ => ?_
        simp only [pvSt1]
        simp only [C_X6_letterAt, C_X6_valuationAt, C_X0_statesBehind, pvE_aload_n0, pvLA_s, pvLd, pvE_invokevirtual, pvC1_s, pvC2_s, pvAf_v, pvAf_x, pvPop, pvCs, pvCat, pvPush, aX0_statesAfterEvents_85, pvSh_0, pvSh_1, pvSh_2, pvSh_3, pvSh_4, pvSh_5, pvSh_6, pvSh_7, pvSh_8, pvSh_9, pvSh_10, pvSh_11, pvSh_12, pvSh_13, pvSh_14, pvSh_15, pvSh_16, pvSh_17, pvSh_18, pvSh_19, pvSh_20, pvSh_21, pvSh_22, pvSh_23, pvSh_24, pvSh_25, pvSh_26, pvSh_27, pvSh_28, pvSh_29, pvSh_30, pvSh_31, pvSh_32, pvSh_33, pvSh_34, pvSh_35, pvSh_36, pvSh_37, pvSh_38, pvE_istore_n3, pvS1, List.length_cons, List.length_nil, pvClr_i, pvClr_r, pvClr_l, pvClr_d, pvClr_f, pvClr_n, pvE_iconst, pvE_istore, pvE_iload, pvLI_s, pvE_iload_n2, pvE_icmp_ge, pvE_iload_n3, pvE_aload_n1, aX0_statesAfterEvents_88, aX0_statesAfterEvents_93, aX0_statesAfterEvents_96, pvE_iinc, pvIc_s, pvE_goto, pvE_ireturn, bX0_statesAfterEvents_0, uX0_statesAfterEvents_0, bX0_statesAfterEvents_8, uX0_statesAfterEvents_8, bX0_statesAfterEvents_38, uX0_statesAfterEvents_38, pvMk_t, pvMk_f, pvMk_n, pvRtG, pvRecv_r, pvUp_nl, pvUp_same, pvUp_ap, pvSt_ap, pvX_c, pvX_ms, pvX_mn, pvE_nil, pvEn_i, pvEn_r, pvEn_l, pvEn_0, pvEn_s, pvRt, pvRv, pvTh, pvKc, pvGo, pvTgt, Int.toNat_natCast, false_and, and_false, true_and, and_true, if_true, if_false, reduceIte, reduceCtorEq, forall_const, false_or, or_false, true_or, or_true, ne_eq, not_true_eq_false, not_false_eq_true, implies_true, false_implies, Nat.reduceAdd, Nat.reduceSub, Nat.reduceMul, Nat.reduceEqDiff, Nat.reduceLT, Nat.reduceLeDiff, Int.reduceAdd, Int.reduceSub, Int.reduceMul, Int.reduceNeg, Int.reduceToNat, Int.reduceLE, Int.reduceLT, Int.reduceEq, Int.reduceNe, and_self]
        by_cases hkn : n ≤ k
        · obtain rfl : k = n := by omega
          (repeat' (first | with_reducible apply And.intro | intro _))
          all_goals first
            | omega
            | exact h2
        · have hv := WcF_v hd (k := k) (by omega)
          have ihk : SW 8 [some (vR id), some (vR 20), some (vI (n : Int)), some (vI (afK (autC (z.1 (id + 1))) (z.1 21) (z.1 22) (k + 1))), some (vI ((k : Int) + 1))] z := ih (m - 1) (by omega) (k + 1) (by omega)
          simp only [afK, ← hd.2 k (by omega)] at ihk
          (repeat' (first | with_reducible apply And.intro | intro _))
          all_goals first
            | omega
            | assumption
    refine ⟨Nat.le_of_ble_eq_true rfl, hc 20 _ _ _ fun _ _ => ?_⟩
    simp only [pvSt1]
    simp only [C_X0_initialStates, pvE_aload_n0, pvLA_s, pvLd, pvE_invokevirtual, pvC1_s, pvC2_s, pvAf_v, pvAf_x, pvPop, pvCs, pvCat, pvPush, aX0_statesAfterEvents_85, pvSh_0, pvSh_1, pvSh_2, pvSh_3, pvSh_4, pvSh_5, pvSh_6, pvSh_7, pvSh_8, pvSh_9, pvSh_10, pvSh_11, pvSh_12, pvSh_13, pvSh_14, pvSh_15, pvSh_16, pvSh_17, pvSh_18, pvSh_19, pvSh_20, pvSh_21, pvSh_22, pvSh_23, pvSh_24, pvSh_25, pvSh_26, pvSh_27, pvSh_28, pvSh_29, pvSh_30, pvSh_31, pvSh_32, pvSh_33, pvSh_34, pvSh_35, pvSh_36, pvSh_37, pvSh_38, pvE_istore_n3, pvS1, List.length_cons, List.length_nil, pvClr_i, pvClr_r, pvClr_l, pvClr_d, pvClr_f, pvClr_n, pvE_iconst, pvE_istore, pvE_iload, pvLI_s, pvE_iload_n2, pvE_icmp_ge, pvE_iload_n3, pvE_aload_n1, aX0_statesAfterEvents_88, aX0_statesAfterEvents_93, aX0_statesAfterEvents_96, pvE_iinc, pvIc_s, pvE_goto, pvE_ireturn, bX0_statesAfterEvents_0, uX0_statesAfterEvents_0, bX0_statesAfterEvents_8, uX0_statesAfterEvents_8, bX0_statesAfterEvents_38, uX0_statesAfterEvents_38, pvMk_t, pvMk_f, pvMk_n, pvRtG, pvRecv_r, pvUp_nl, pvUp_same, pvUp_ap, pvSt_ap, pvX_c, pvX_ms, pvX_mn, pvE_nil, pvEn_i, pvEn_r, pvEn_l, pvEn_0, pvEn_s, pvRt, pvRv, pvTh, pvKc, pvGo, pvTgt, Int.toNat_natCast, false_and, and_false, true_and, and_true, if_true, if_false, reduceIte, reduceCtorEq, forall_const, false_or, or_false, true_or, or_true, ne_eq, not_true_eq_false, not_false_eq_true, implies_true, false_implies, Nat.reduceAdd, Nat.reduceSub, Nat.reduceMul, Nat.reduceEqDiff, Nat.reduceLT, Nat.reduceLeDiff, Int.reduceAdd, Int.reduceSub, Int.reduceMul, Int.reduceNeg, Int.reduceToNat, Int.reduceLE, Int.reduceLT, Int.reduceEq, Int.reduceNe, and_self]
    (repeat' (first | with_reducible apply And.intro | intro _))
    all_goals first
      | omega
      | assumption
      | exact loop n 0 (by omega)
  · exact h.elim
/-- the first transition, from the k-th on, that reads from a state into a set -/
def fmK (T : Nat → Nat → Int) (q set a v : Int) : Nat → Nat → Int
  | 0, _ => -1
  | m + 1, k => if T k 0 = q ∧ btF set (T k 2) = true ∧ T k 1 = a ∧ blF (T k) v < 0 then k else fmK T q set a v m (k + 1)
