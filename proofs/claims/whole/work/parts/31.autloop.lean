/-! the class's automaton: its loops -/
def C_X0_statesBehind : pvC
  | [.inr (.inr (.inl id)), .inl set, .inl a, .inl v], z, Q => (id = 1 ∨ id = 3) ∧ (WfC (z.1 (id + 1)) ∧ (0 ≤ set ∧ set ≤ 15) ∧ 0 ≤ v ∧ v < 216) ∧ Q (.inl (some (vI (sbF (autC (z.1 (id + 1))) set a v)))) z
  | _, _, _ => False
def bX0_statesBehind : Nat → List (Instr × Nat)
  | 0 => [(.iconst 0, 1), (.istore 4, 2), (.iconst 0, 1), (.istore 5, 2)]
  | 6 => [(.iload 5, 2), (.aload_n 0, 1), (.invokevirtual 23, 3), (.if_icmp .ge 48, 3), (.iload_n 1, 1), (.aload_n 0, 1), (.iload 5, 2), (.iconst 0, 1), (.invokevirtual 19, 3), (.invokestatic 78, 3), (.ifCond .eq 28, 3), (.aload_n 0, 1), (.iload 5, 2), (.iload_n 2, 1), (.iload_n 3, 1), (.invokevirtual 81, 3), (.ifCond .eq 17, 3), (.iload 4, 2), (.iconst 1, 1), (.aload_n 0, 1), (.iload 5, 2), (.iconst 2, 1), (.invokevirtual 19, 3), (.ishl, 1), (.ior, 1), (.istore 4, 2)]
  | 54 => [(.iinc 5 1, 3), (.goto (-51), 3)]
  | 60 => [(.iload 4, 2), (.ireturn, 1)]
  | _ => []
def uX0_statesBehind : Nat → Option (List Bool)
  | 6 => some [true, true, true, true, true, true]
  | _ => none
def aX0_statesBehind : pvCa
  | 19 => some (3, false, 0, 0, C_X0_cell)
  | 23 => some (1, false, 0, 0, C_X0_size)
  | 78 => some (2, true, 0, 0, C_X9_hasState)
  | 81 => some (4, false, 0, 0, C_X0_canRead)
  | _ => none
theorem bX0_statesBehind_0 : bX0_statesBehind 0 = [(.iconst 0, 1), (.istore 4, 2), (.iconst 0, 1), (.istore 5, 2)] := rfl
theorem uX0_statesBehind_0 : uX0_statesBehind 0 = none := rfl
theorem bX0_statesBehind_6 : bX0_statesBehind 6 = [(.iload 5, 2), (.aload_n 0, 1), (.invokevirtual 23, 3), (.if_icmp .ge 48, 3), (.iload_n 1, 1), (.aload_n 0, 1), (.iload 5, 2), (.iconst 0, 1), (.invokevirtual 19, 3), (.invokestatic 78, 3), (.ifCond .eq 28, 3), (.aload_n 0, 1), (.iload 5, 2), (.iload_n 2, 1), (.iload_n 3, 1), (.invokevirtual 81, 3), (.ifCond .eq 17, 3), (.iload 4, 2), (.iconst 1, 1), (.aload_n 0, 1), (.iload 5, 2), (.iconst 2, 1), (.invokevirtual 19, 3), (.ishl, 1), (.ior, 1), (.istore 4, 2)] := rfl
theorem uX0_statesBehind_6 : uX0_statesBehind 6 = some [true, true, true, true, true, true] := rfl
theorem bX0_statesBehind_54 : bX0_statesBehind 54 = [(.iinc 5 1, 3), (.goto (-51), 3)] := rfl
theorem uX0_statesBehind_54 : uX0_statesBehind 54 = none := rfl
theorem bX0_statesBehind_60 : bX0_statesBehind 60 = [(.iload 4, 2), (.ireturn, 1)] := rfl
theorem uX0_statesBehind_60 : uX0_statesBehind 60 = none := rfl
theorem aX0_statesBehind_19 : aX0_statesBehind 19 = some (3, false, 0, 0, C_X0_cell) := rfl
theorem aX0_statesBehind_23 : aX0_statesBehind 23 = some (1, false, 0, 0, C_X0_size) := rfl
theorem aX0_statesBehind_78 : aX0_statesBehind 78 = some (2, true, 0, 0, C_X9_hasState) := rfl
theorem aX0_statesBehind_81 : aX0_statesBehind 81 = some (4, false, 0, 0, C_X0_canRead) := rfl
def mX0_statesBehind : Room := { frames := 4, cells := 1, slots := 6, locals := 88 }
set_option maxRecDepth 100000 in
set_option maxHeartbeats 4000000 in
theorem okX0_statesBehind : pvOkM fX0 aX0_statesBehind kX0 eX0 (some .int) bX0_statesBehind uX0_statesBehind 6 C_X0_statesBehind := by
  intro Q SW hc as z h hS hz
  unfold C_X0_statesBehind at h
  split at h
  · rename_i id set a v
    obtain ⟨hid, ⟨hw, hset, hv⟩, h2⟩ := h
    have hsh : pvSh id = Sum.inl 0 := by rcases hid with rfl | rfl <;> rfl
    have hn : 0 ≤ z.1 (id + 1) 0 ∧ z.1 (id + 1) 0 ≤ 10 := hw.1.1
    have hr := fun k (hk : k ≤ (autC (z.1 (id + 1))).1.toNat) => sbK_r (n := (autC (z.1 (id + 1))).1.toNat) (fun t ht => (hw.1.2.2.2 t (by omega)).2.2.1) set a v k hk
    have loop : ∀ (m k : Nat), (k : Int) + m = z.1 (id + 1) 0 → SW 6 [some (vR id), some (vI set), some (vI a), some (vI v), some (vI (sbK (autC (z.1 (id + 1))).2.2.2 set a v k)), some (vI (k : Int))] z := by
      intro m
      induction m using Nat.strongRecOn with
      | _ m ih =>
        intro k hk
        have hrk := hr k (by show k ≤ (z.1 (id + 1) 0).toNat; omega)
        refine hc 20 _ _ _ fun _ _ => ?_
        simp only [pvSt1]
        simp only [C_X0_size, C_X0_cell, C_X9_hasState, C_X0_canRead, pvE_iconst, pvE_istore, pvS1, List.length_cons, List.length_nil, pvClr_i, pvClr_r, pvClr_l, pvClr_d, pvClr_f, pvClr_n, pvE_iload, pvLI_s, pvLd, pvE_aload_n0, pvLA_s, pvE_invokevirtual, pvC1_s, pvC2_s, pvAf_v, pvAf_x, pvPop, pvCs, pvCat, pvPush, aX0_statesBehind_23, pvSh_0, pvSh_1, pvSh_2, pvSh_3, pvSh_4, pvSh_5, pvSh_6, pvSh_7, pvSh_8, pvSh_9, pvSh_10, pvSh_11, pvSh_12, pvSh_13, pvSh_14, pvSh_15, pvSh_16, pvSh_17, pvSh_18, pvSh_19, pvSh_20, pvSh_21, pvSh_22, pvSh_23, pvSh_24, pvSh_25, pvSh_26, pvSh_27, pvSh_28, pvSh_29, pvSh_30, pvSh_31, pvSh_32, pvSh_33, pvSh_34, pvSh_35, pvSh_36, pvSh_37, pvSh_38, pvSh_39, pvSh_40, pvSh_41, pvSh_42, pvSh_43, pvSh_44, pvSh_45, pvSh_46, pvSh_47, pvSh_48, pvSh_49, pvSh_50, pvSh_51, pvSh_52, pvSh_53, pvSh_54, pvSh_55, pvSh_56, pvSh_57, pvSh_58, pvSh_59, pvE_icmp_ge, pvE_iload_n1, aX0_statesBehind_19, pvE_invokestatic (h0 := eX0_78), aX0_statesBehind_78, pvE_if_eq, pvE_iload_n2, pvE_iload_n3, aX0_statesBehind_81, pvE_ishl, pvE_ior, pvE_iinc, pvIc_s, pvE_goto, pvE_ireturn, bX0_statesBehind_0, uX0_statesBehind_0, bX0_statesBehind_6, uX0_statesBehind_6, bX0_statesBehind_54, uX0_statesBehind_54, bX0_statesBehind_60, uX0_statesBehind_60, pvMk_t, pvMk_f, pvMk_n, pvRecv_r, pvUp_nl, pvUp_same, pvUp_ap, pvSt_ap, pvX_c, pvX_ms, pvX_mn, pvE_nil, pvEn_i, pvEn_r, pvEn_l, pvEn_0, pvEn_s, pvRt, pvRv, pvTh, pvKc, pvGo, pvTgt, Int.toNat_natCast, false_and, and_false, true_and, and_true, if_true, if_false, reduceIte, reduceCtorEq, forall_const, false_or, or_false, true_or, or_true, ne_eq, not_true_eq_false, not_false_eq_true, implies_true, false_implies, Nat.reduceAdd, Nat.reduceSub, Nat.reduceMul, Nat.reduceEqDiff, Nat.reduceLT, Nat.reduceLeDiff, Int.reduceAdd, Int.reduceSub, Int.reduceMul, Int.reduceNeg, Int.reduceToNat, Int.reduceLE, Int.reduceLT, Int.reduceEq, Int.reduceNe, and_self]
        by_cases hkn : z.1 (id + 1) 0 ≤ k
        · obtain rfl : k = (z.1 (id + 1) 0).toNat := by omega
          (repeat' (first | with_reducible apply And.intro | intro _))
          all_goals first
            | omega
            | exact h2
        · have hT := autC_w hw (t := k) (by omega)
          have e0 := hT.1
          have e2 := hT.2.2.1
          have e := autC_T (f := z.1 (id + 1)) (t := k) (by show (k : Int) < z.1 (id + 1) 0; omega)
          have ihk : SW 6 [some (vR id), some (vI set), some (vI a), some (vI v), some (vI (sbK (autC (z.1 (id + 1))).2.2.2 set a v (k + 1))), some (vI ((k : Int) + 1))] z := ih (m - 1) (by omega) (k + 1) (by omega)
          simp only [sbK, e, nrT_s (show 0 < 4 by decide), nrT_s (show 1 < 4 by decide), nrT_s (show 2 < 4 by decide), blF_nr] at ihk
          (repeat' (first | with_reducible apply And.intro | intro _))
          all_goals first
            | omega
            | assumption
            | grind
    refine ⟨Nat.le_of_ble_eq_true rfl, hc 20 _ _ _ fun _ _ => ?_⟩
    simp only [pvSt1]
    simp only [pvE_iconst, pvE_istore, pvS1, List.length_cons, List.length_nil, pvClr_i, pvClr_r, pvClr_l, pvClr_d, pvClr_f, pvClr_n, pvE_iload, pvLI_s, pvLd, pvE_aload_n0, pvLA_s, pvE_invokevirtual, pvC1_s, pvC2_s, pvAf_v, pvAf_x, pvPop, pvCs, pvCat, pvPush, aX0_statesBehind_23, pvSh_0, pvSh_1, pvSh_2, pvSh_3, pvSh_4, pvSh_5, pvSh_6, pvSh_7, pvSh_8, pvSh_9, pvSh_10, pvSh_11, pvSh_12, pvSh_13, pvSh_14, pvSh_15, pvSh_16, pvSh_17, pvSh_18, pvSh_19, pvSh_20, pvSh_21, pvSh_22, pvSh_23, pvSh_24, pvSh_25, pvSh_26, pvSh_27, pvSh_28, pvSh_29, pvSh_30, pvSh_31, pvSh_32, pvSh_33, pvSh_34, pvSh_35, pvSh_36, pvSh_37, pvSh_38, pvSh_39, pvSh_40, pvSh_41, pvSh_42, pvSh_43, pvSh_44, pvSh_45, pvSh_46, pvSh_47, pvSh_48, pvSh_49, pvSh_50, pvSh_51, pvSh_52, pvSh_53, pvSh_54, pvSh_55, pvSh_56, pvSh_57, pvSh_58, pvSh_59, pvE_icmp_ge, pvE_iload_n1, aX0_statesBehind_19, pvE_invokestatic (h0 := eX0_78), aX0_statesBehind_78, pvE_if_eq, pvE_iload_n2, pvE_iload_n3, aX0_statesBehind_81, pvE_ishl, pvE_ior, pvE_iinc, pvIc_s, pvE_goto, pvE_ireturn, bX0_statesBehind_0, uX0_statesBehind_0, bX0_statesBehind_6, uX0_statesBehind_6, bX0_statesBehind_54, uX0_statesBehind_54, bX0_statesBehind_60, uX0_statesBehind_60, pvMk_t, pvMk_f, pvMk_n, pvRecv_r, pvUp_nl, pvUp_same, pvUp_ap, pvSt_ap, pvX_c, pvX_ms, pvX_mn, pvE_nil, pvEn_i, pvEn_r, pvEn_l, pvEn_0, pvEn_s, pvRt, pvRv, pvTh, pvKc, pvGo, pvTgt, Int.toNat_natCast, false_and, and_false, true_and, and_true, if_true, if_false, reduceIte, reduceCtorEq, forall_const, false_or, or_false, true_or, or_true, ne_eq, not_true_eq_false, not_false_eq_true, implies_true, false_implies, Nat.reduceAdd, Nat.reduceSub, Nat.reduceMul, Nat.reduceEqDiff, Nat.reduceLT, Nat.reduceLeDiff, Int.reduceAdd, Int.reduceSub, Int.reduceMul, Int.reduceNeg, Int.reduceToNat, Int.reduceLE, Int.reduceLT, Int.reduceEq, Int.reduceNe, and_self]
    (repeat' (first | with_reducible apply And.intro | intro _))
    all_goals first
      | omega
      | exact loop (z.1 (id + 1) 0).toNat 0 (by omega)
  · exact h.elim
def saK (T : Nat → Nat → Int) (set a v : Int) : Nat → Int
  | 0 => 0
  | k + 1 => if btF set (T k 2) = true ∧ T k 1 = a ∧ blF (T k) v < 0 then pvOr (saK T set a v k) (pvShl 1 (T k 0)) else saK T set a v k
/-- the states from which an event leads into a set -/
def saF (A : Aut) (set a v : Int) : Int := saK A.2.2.2 set a v A.1.toNat
theorem saK_r {T : Nat → Nat → Int} {n : Nat} (h : ∀ t, t < n → 0 ≤ T t 0 ∧ T t 0 ≤ 3) (set a v : Int) (k : Nat) (hk : k ≤ n) : 0 ≤ saK T set a v k ∧ saK T set a v k ≤ 15 := by
  induction k with
  | zero => exact ⟨Int.le_refl 0, by show (0 : Int) ≤ 15; decide⟩
  | succ k ih =>
    simp only [saK]
    split
    · exact or15 (ih (by omega)) (h k (by omega))
    · exact ih (by omega)
theorem saF_r {A : Aut} (h : WfA A) (set a v : Int) : 0 ≤ saF A set a v ∧ saF A set a v ≤ 15 :=
  saK_r (n := A.1.toNat) (fun t ht => (h.2.2.2 t (by omega)).1) set a v _ (Nat.le_refl _)
def C_X0_statesAhead : pvC
  | [.inr (.inr (.inl id)), .inl set, .inl a, .inl v], z, Q => (id = 1 ∨ id = 3) ∧ (WfC (z.1 (id + 1)) ∧ (0 ≤ set ∧ set ≤ 15) ∧ 0 ≤ v ∧ v < 216) ∧ Q (.inl (some (vI (saF (autC (z.1 (id + 1))) set a v)))) z
  | _, _, _ => False
def bX0_statesAhead : Nat → List (Instr × Nat)
  | 0 => [(.iconst 0, 1), (.istore 4, 2), (.iconst 0, 1), (.istore 5, 2)]
  | 6 => [(.iload 5, 2), (.aload_n 0, 1), (.invokevirtual 23, 3), (.if_icmp .ge 48, 3), (.iload_n 1, 1), (.aload_n 0, 1), (.iload 5, 2), (.iconst 2, 1), (.invokevirtual 19, 3), (.invokestatic 78, 3), (.ifCond .eq 28, 3), (.aload_n 0, 1), (.iload 5, 2), (.iload_n 2, 1), (.iload_n 3, 1), (.invokevirtual 81, 3), (.ifCond .eq 17, 3), (.iload 4, 2), (.iconst 1, 1), (.aload_n 0, 1), (.iload 5, 2), (.iconst 0, 1), (.invokevirtual 19, 3), (.ishl, 1), (.ior, 1), (.istore 4, 2)]
  | 54 => [(.iinc 5 1, 3), (.goto (-51), 3)]
  | 60 => [(.iload 4, 2), (.ireturn, 1)]
  | _ => []
def uX0_statesAhead : Nat → Option (List Bool)
  | 6 => some [true, true, true, true, true, true]
  | _ => none
def aX0_statesAhead : pvCa
  | 19 => some (3, false, 0, 0, C_X0_cell)
  | 23 => some (1, false, 0, 0, C_X0_size)
  | 78 => some (2, true, 0, 0, C_X9_hasState)
  | 81 => some (4, false, 0, 0, C_X0_canRead)
  | _ => none
theorem bX0_statesAhead_0 : bX0_statesAhead 0 = [(.iconst 0, 1), (.istore 4, 2), (.iconst 0, 1), (.istore 5, 2)] := rfl
theorem uX0_statesAhead_0 : uX0_statesAhead 0 = none := rfl
theorem bX0_statesAhead_6 : bX0_statesAhead 6 = [(.iload 5, 2), (.aload_n 0, 1), (.invokevirtual 23, 3), (.if_icmp .ge 48, 3), (.iload_n 1, 1), (.aload_n 0, 1), (.iload 5, 2), (.iconst 2, 1), (.invokevirtual 19, 3), (.invokestatic 78, 3), (.ifCond .eq 28, 3), (.aload_n 0, 1), (.iload 5, 2), (.iload_n 2, 1), (.iload_n 3, 1), (.invokevirtual 81, 3), (.ifCond .eq 17, 3), (.iload 4, 2), (.iconst 1, 1), (.aload_n 0, 1), (.iload 5, 2), (.iconst 0, 1), (.invokevirtual 19, 3), (.ishl, 1), (.ior, 1), (.istore 4, 2)] := rfl
theorem uX0_statesAhead_6 : uX0_statesAhead 6 = some [true, true, true, true, true, true] := rfl
theorem bX0_statesAhead_54 : bX0_statesAhead 54 = [(.iinc 5 1, 3), (.goto (-51), 3)] := rfl
theorem uX0_statesAhead_54 : uX0_statesAhead 54 = none := rfl
theorem bX0_statesAhead_60 : bX0_statesAhead 60 = [(.iload 4, 2), (.ireturn, 1)] := rfl
theorem uX0_statesAhead_60 : uX0_statesAhead 60 = none := rfl
theorem aX0_statesAhead_19 : aX0_statesAhead 19 = some (3, false, 0, 0, C_X0_cell) := rfl
theorem aX0_statesAhead_23 : aX0_statesAhead 23 = some (1, false, 0, 0, C_X0_size) := rfl
theorem aX0_statesAhead_78 : aX0_statesAhead 78 = some (2, true, 0, 0, C_X9_hasState) := rfl
theorem aX0_statesAhead_81 : aX0_statesAhead 81 = some (4, false, 0, 0, C_X0_canRead) := rfl
def mX0_statesAhead : Room := { frames := 4, cells := 1, slots := 6, locals := 88 }
set_option maxRecDepth 100000 in
set_option maxHeartbeats 4000000 in
theorem okX0_statesAhead : pvOkM fX0 aX0_statesAhead kX0 eX0 (some .int) bX0_statesAhead uX0_statesAhead 6 C_X0_statesAhead := by
  intro Q SW hc as z h hS hz
  unfold C_X0_statesAhead at h
  split at h
  · rename_i id set a v
    obtain ⟨hid, ⟨hw, hset, hv⟩, h2⟩ := h
    have hsh : pvSh id = Sum.inl 0 := by rcases hid with rfl | rfl <;> rfl
    have hn : 0 ≤ z.1 (id + 1) 0 ∧ z.1 (id + 1) 0 ≤ 10 := hw.1.1
    have hr := fun k (hk : k ≤ (autC (z.1 (id + 1))).1.toNat) => saK_r (n := (autC (z.1 (id + 1))).1.toNat) (fun t ht => (hw.1.2.2.2 t (by omega)).1) set a v k hk
    have loop : ∀ (m k : Nat), (k : Int) + m = z.1 (id + 1) 0 → SW 6 [some (vR id), some (vI set), some (vI a), some (vI v), some (vI (saK (autC (z.1 (id + 1))).2.2.2 set a v k)), some (vI (k : Int))] z := by
      intro m
      induction m using Nat.strongRecOn with
      | _ m ih =>
        intro k hk
        have hrk := hr k (by show k ≤ (z.1 (id + 1) 0).toNat; omega)
        refine hc 20 _ _ _ fun _ _ => ?_
        simp only [pvSt1]
        simp only [C_X0_size, C_X0_cell, C_X9_hasState, C_X0_canRead, pvE_iconst, pvE_istore, pvS1, List.length_cons, List.length_nil, pvClr_i, pvClr_r, pvClr_l, pvClr_d, pvClr_f, pvClr_n, pvE_iload, pvLI_s, pvLd, pvE_aload_n0, pvLA_s, pvE_invokevirtual, pvC1_s, pvC2_s, pvAf_v, pvAf_x, pvPop, pvCs, pvCat, pvPush, aX0_statesAhead_23, pvSh_0, pvSh_1, pvSh_2, pvSh_3, pvSh_4, pvSh_5, pvSh_6, pvSh_7, pvSh_8, pvSh_9, pvSh_10, pvSh_11, pvSh_12, pvSh_13, pvSh_14, pvSh_15, pvSh_16, pvSh_17, pvSh_18, pvSh_19, pvSh_20, pvSh_21, pvSh_22, pvSh_23, pvSh_24, pvSh_25, pvSh_26, pvSh_27, pvSh_28, pvSh_29, pvSh_30, pvSh_31, pvSh_32, pvSh_33, pvSh_34, pvSh_35, pvSh_36, pvSh_37, pvSh_38, pvSh_39, pvSh_40, pvSh_41, pvSh_42, pvSh_43, pvSh_44, pvSh_45, pvSh_46, pvSh_47, pvSh_48, pvSh_49, pvSh_50, pvSh_51, pvSh_52, pvSh_53, pvSh_54, pvSh_55, pvSh_56, pvSh_57, pvSh_58, pvSh_59, pvE_icmp_ge, pvE_iload_n1, aX0_statesAhead_19, pvE_invokestatic (h0 := eX0_78), aX0_statesAhead_78, pvE_if_eq, pvE_iload_n2, pvE_iload_n3, aX0_statesAhead_81, pvE_ishl, pvE_ior, pvE_iinc, pvIc_s, pvE_goto, pvE_ireturn, bX0_statesAhead_0, uX0_statesAhead_0, bX0_statesAhead_6, uX0_statesAhead_6, bX0_statesAhead_54, uX0_statesAhead_54, bX0_statesAhead_60, uX0_statesAhead_60, pvMk_t, pvMk_f, pvMk_n, pvRecv_r, pvUp_nl, pvUp_same, pvUp_ap, pvSt_ap, pvX_c, pvX_ms, pvX_mn, pvE_nil, pvEn_i, pvEn_r, pvEn_l, pvEn_0, pvEn_s, pvRt, pvRv, pvTh, pvKc, pvGo, pvTgt, Int.toNat_natCast, false_and, and_false, true_and, and_true, if_true, if_false, reduceIte, reduceCtorEq, forall_const, false_or, or_false, true_or, or_true, ne_eq, not_true_eq_false, not_false_eq_true, implies_true, false_implies, Nat.reduceAdd, Nat.reduceSub, Nat.reduceMul, Nat.reduceEqDiff, Nat.reduceLT, Nat.reduceLeDiff, Int.reduceAdd, Int.reduceSub, Int.reduceMul, Int.reduceNeg, Int.reduceToNat, Int.reduceLE, Int.reduceLT, Int.reduceEq, Int.reduceNe, and_self]
        by_cases hkn : z.1 (id + 1) 0 ≤ k
        · obtain rfl : k = (z.1 (id + 1) 0).toNat := by omega
          (repeat' (first | with_reducible apply And.intro | intro _))
          all_goals first
            | omega
            | exact h2
        · have hT := autC_w hw (t := k) (by omega)
          have e0 := hT.1
          have e2 := hT.2.2.1
          have e := autC_T (f := z.1 (id + 1)) (t := k) (by show (k : Int) < z.1 (id + 1) 0; omega)
          have ihk : SW 6 [some (vR id), some (vI set), some (vI a), some (vI v), some (vI (saK (autC (z.1 (id + 1))).2.2.2 set a v (k + 1))), some (vI ((k : Int) + 1))] z := ih (m - 1) (by omega) (k + 1) (by omega)
          simp only [saK, e, nrT_s (show 0 < 4 by decide), nrT_s (show 1 < 4 by decide), nrT_s (show 2 < 4 by decide), blF_nr] at ihk
          (repeat' (first | with_reducible apply And.intro | intro _))
          all_goals first
            | omega
            | assumption
            | grind
    refine ⟨Nat.le_of_ble_eq_true rfl, hc 20 _ _ _ fun _ _ => ?_⟩
    simp only [pvSt1]
    simp only [pvE_iconst, pvE_istore, pvS1, List.length_cons, List.length_nil, pvClr_i, pvClr_r, pvClr_l, pvClr_d, pvClr_f, pvClr_n, pvE_iload, pvLI_s, pvLd, pvE_aload_n0, pvLA_s, pvE_invokevirtual, pvC1_s, pvC2_s, pvAf_v, pvAf_x, pvPop, pvCs, pvCat, pvPush, aX0_statesAhead_23, pvSh_0, pvSh_1, pvSh_2, pvSh_3, pvSh_4, pvSh_5, pvSh_6, pvSh_7, pvSh_8, pvSh_9, pvSh_10, pvSh_11, pvSh_12, pvSh_13, pvSh_14, pvSh_15, pvSh_16, pvSh_17, pvSh_18, pvSh_19, pvSh_20, pvSh_21, pvSh_22, pvSh_23, pvSh_24, pvSh_25, pvSh_26, pvSh_27, pvSh_28, pvSh_29, pvSh_30, pvSh_31, pvSh_32, pvSh_33, pvSh_34, pvSh_35, pvSh_36, pvSh_37, pvSh_38, pvSh_39, pvSh_40, pvSh_41, pvSh_42, pvSh_43, pvSh_44, pvSh_45, pvSh_46, pvSh_47, pvSh_48, pvSh_49, pvSh_50, pvSh_51, pvSh_52, pvSh_53, pvSh_54, pvSh_55, pvSh_56, pvSh_57, pvSh_58, pvSh_59, pvE_icmp_ge, pvE_iload_n1, aX0_statesAhead_19, pvE_invokestatic (h0 := eX0_78), aX0_statesAhead_78, pvE_if_eq, pvE_iload_n2, pvE_iload_n3, aX0_statesAhead_81, pvE_ishl, pvE_ior, pvE_iinc, pvIc_s, pvE_goto, pvE_ireturn, bX0_statesAhead_0, uX0_statesAhead_0, bX0_statesAhead_6, uX0_statesAhead_6, bX0_statesAhead_54, uX0_statesAhead_54, bX0_statesAhead_60, uX0_statesAhead_60, pvMk_t, pvMk_f, pvMk_n, pvRecv_r, pvUp_nl, pvUp_same, pvUp_ap, pvSt_ap, pvX_c, pvX_ms, pvX_mn, pvE_nil, pvEn_i, pvEn_r, pvEn_l, pvEn_0, pvEn_s, pvRt, pvRv, pvTh, pvKc, pvGo, pvTgt, Int.toNat_natCast, false_and, and_false, true_and, and_true, if_true, if_false, reduceIte, reduceCtorEq, forall_const, false_or, or_false, true_or, or_true, ne_eq, not_true_eq_false, not_false_eq_true, implies_true, false_implies, Nat.reduceAdd, Nat.reduceSub, Nat.reduceMul, Nat.reduceEqDiff, Nat.reduceLT, Nat.reduceLeDiff, Int.reduceAdd, Int.reduceSub, Int.reduceMul, Int.reduceNeg, Int.reduceToNat, Int.reduceLE, Int.reduceLT, Int.reduceEq, Int.reduceNe, and_self]
    (repeat' (first | with_reducible apply And.intro | intro _))
    all_goals first
      | omega
      | exact loop (z.1 (id + 1) 0).toNat 0 (by omega)
  · exact h.elim
theorem sm_bit {k n x : Int} (hk : 0 ≤ k ∧ k ≤ 6) (hn : 0 ≤ n ∧ n ≤ 3) (hx : 0 ≤ x ∧ x ≤ 5) : btF (smF k n) x = hdF k n x := by
  obtain ⟨a, rfl⟩ := fin_of (a := k) (n := 7) (by omega)
  obtain ⟨b, rfl⟩ := fin_of (a := n) (n := 4) (by omega)
  obtain ⟨c, rfl⟩ := fin_of (a := x) (n := 6) (by omega)
  exact smF_bit a b c
def C_X0_firstUnsatisfied : pvC
  | [.inr (.inr (.inl id)), .inl t, .inl v], z, Q => (id = 1 ∨ id = 3) ∧ (WfC (z.1 (id + 1)) ∧ (0 ≤ t ∧ t < z.1 (id + 1) 0) ∧ 0 ≤ v ∧ v < 216) ∧ Q (.inl (some (vI (blF ((autC (z.1 (id + 1))).2.2.2 t.toNat) v)))) z
  | _, _, _ => False
def bX0_firstUnsatisfied : Nat → List (Instr × Nat)
  | 0 => [(.iconst 0, 1), (.istore_n 3, 1)]
  | 2 => [(.iload_n 3, 1), (.aload_n 0, 1), (.iload_n 1, 1), (.invokevirtual 62, 3), (.if_icmp .ge 38, 3), (.iload_n 2, 1), (.aload_n 0, 1), (.iload_n 1, 1), (.iload_n 3, 1), (.iconst 0, 1), (.invokevirtual 56, 3), (.invokestatic 66, 3), (.istore 4, 2), (.aload_n 0, 1), (.iload_n 1, 1), (.iload_n 3, 1), (.invokevirtual 43, 3), (.iload 4, 2), (.ishr, 1), (.iconst 1, 1), (.iand, 1), (.ifCond .ne 5, 3), (.iload_n 3, 1), (.ireturn, 1)]
  | 40 => [(.iinc 3 1, 3), (.goto (-41), 3)]
  | 46 => [(.iconst (-1), 1), (.ireturn, 1)]
  | _ => []
def uX0_firstUnsatisfied : Nat → Option (List Bool)
  | 2 => some [true, true, true, true, false]
  | _ => none
def aX0_firstUnsatisfied : pvCa
  | 43 => some (3, false, 0, 0, C_X0_satisfyingValues)
  | 56 => some (4, false, 0, 0, C_X0_constraintCell)
  | 62 => some (2, false, 0, 0, C_X0_guardSize)
  | 66 => some (2, true, 0, 0, C_X7_valueOf)
  | _ => none
theorem bX0_firstUnsatisfied_0 : bX0_firstUnsatisfied 0 = [(.iconst 0, 1), (.istore_n 3, 1)] := rfl
theorem uX0_firstUnsatisfied_0 : uX0_firstUnsatisfied 0 = none := rfl
theorem bX0_firstUnsatisfied_2 : bX0_firstUnsatisfied 2 = [(.iload_n 3, 1), (.aload_n 0, 1), (.iload_n 1, 1), (.invokevirtual 62, 3), (.if_icmp .ge 38, 3), (.iload_n 2, 1), (.aload_n 0, 1), (.iload_n 1, 1), (.iload_n 3, 1), (.iconst 0, 1), (.invokevirtual 56, 3), (.invokestatic 66, 3), (.istore 4, 2), (.aload_n 0, 1), (.iload_n 1, 1), (.iload_n 3, 1), (.invokevirtual 43, 3), (.iload 4, 2), (.ishr, 1), (.iconst 1, 1), (.iand, 1), (.ifCond .ne 5, 3), (.iload_n 3, 1), (.ireturn, 1)] := rfl
theorem uX0_firstUnsatisfied_2 : uX0_firstUnsatisfied 2 = some [true, true, true, true, false] := rfl
theorem bX0_firstUnsatisfied_40 : bX0_firstUnsatisfied 40 = [(.iinc 3 1, 3), (.goto (-41), 3)] := rfl
theorem uX0_firstUnsatisfied_40 : uX0_firstUnsatisfied 40 = none := rfl
theorem bX0_firstUnsatisfied_46 : bX0_firstUnsatisfied 46 = [(.iconst (-1), 1), (.ireturn, 1)] := rfl
theorem uX0_firstUnsatisfied_46 : uX0_firstUnsatisfied 46 = none := rfl
theorem aX0_firstUnsatisfied_43 : aX0_firstUnsatisfied 43 = some (3, false, 0, 0, C_X0_satisfyingValues) := rfl
theorem aX0_firstUnsatisfied_56 : aX0_firstUnsatisfied 56 = some (4, false, 0, 0, C_X0_constraintCell) := rfl
theorem aX0_firstUnsatisfied_62 : aX0_firstUnsatisfied 62 = some (2, false, 0, 0, C_X0_guardSize) := rfl
theorem aX0_firstUnsatisfied_66 : aX0_firstUnsatisfied 66 = some (2, true, 0, 0, C_X7_valueOf) := rfl
def mX0_firstUnsatisfied : Room := { frames := 4, cells := 1, slots := 6, locals := 89 }
set_option maxRecDepth 100000 in
set_option maxHeartbeats 4000000 in
theorem okX0_firstUnsatisfied : pvOkM fX0 aX0_firstUnsatisfied kX0 eX0 (some .int) bX0_firstUnsatisfied uX0_firstUnsatisfied 5 C_X0_firstUnsatisfied := by
  intro Q SW hc as z h hS hz
  unfold C_X0_firstUnsatisfied at h
  split at h
  · rename_i id t v
    obtain ⟨hid, ⟨hw, ht, hv⟩, h2⟩ := h
    have hsh : pvSh id = Sum.inl 0 := by rcases hid with rfl | rfl <;> rfl
    have hn : 0 ≤ z.1 (id + 1) 0 ∧ z.1 (id + 1) 0 ≤ 10 := hw.1.1
    obtain ⟨t, rfl⟩ : ∃ n : Nat, t = n := ⟨t.toNat, by omega⟩
    have hT := autC_w hw (t := t) (by omega)
    have h3 := hT.2.2.2.1
    rw [Int.toNat_natCast, autC_T (f := z.1 (id + 1)) (t := t) ht.2, blF_nr] at h2
    have loop : ∀ (m k : Nat), (k : Int) + m = cT (z.1 (id + 1)) t 3 → Q (.inl (some (vI (blK (cT (z.1 (id + 1)) t) v m k)))) z → SW 2 [some (vR id), some (vI (t : Int)), some (vI v), some (vI (k : Int)), none] z := by
      intro m
      induction m with
      | zero =>
        intro k hk hq
        refine hc 20 _ _ _ fun _ _ => ?_
        simp only [pvSt1]
        simp only [C_X0_guardSize, C_X0_constraintCell, C_X7_valueOf, C_X0_satisfyingValues, pvE_iconst, pvE_istore_n3, pvS1, List.length_cons, List.length_nil, pvClr_i, pvClr_r, pvClr_l, pvClr_d, pvClr_f, pvClr_n, pvE_iload_n3, pvLI_s, pvLd, pvE_aload_n0, pvLA_s, pvE_iload_n1, pvE_invokevirtual, pvC1_s, pvC2_s, pvAf_v, pvAf_x, pvPop, pvCs, pvCat, pvPush, aX0_firstUnsatisfied_62, pvSh_0, pvSh_1, pvSh_2, pvSh_3, pvSh_4, pvSh_5, pvSh_6, pvSh_7, pvSh_8, pvSh_9, pvSh_10, pvSh_11, pvSh_12, pvSh_13, pvSh_14, pvSh_15, pvSh_16, pvSh_17, pvSh_18, pvSh_19, pvSh_20, pvSh_21, pvSh_22, pvSh_23, pvSh_24, pvSh_25, pvSh_26, pvSh_27, pvSh_28, pvSh_29, pvSh_30, pvSh_31, pvSh_32, pvSh_33, pvSh_34, pvSh_35, pvSh_36, pvSh_37, pvSh_38, pvSh_39, pvSh_40, pvSh_41, pvSh_42, pvSh_43, pvSh_44, pvSh_45, pvSh_46, pvSh_47, pvSh_48, pvSh_49, pvSh_50, pvSh_51, pvSh_52, pvSh_53, pvSh_54, pvSh_55, pvSh_56, pvSh_57, pvSh_58, pvSh_59, pvE_icmp_ge, pvE_iload_n2, aX0_firstUnsatisfied_56, pvE_invokestatic (h0 := eX0_66), aX0_firstUnsatisfied_66, pvE_istore, aX0_firstUnsatisfied_43, pvE_iload, pvE_ishr, pvE_iand, pvE_if_ne, pvE_ireturn, pvE_iinc, pvIc_s, pvE_goto, bX0_firstUnsatisfied_0, uX0_firstUnsatisfied_0, bX0_firstUnsatisfied_2, uX0_firstUnsatisfied_2, bX0_firstUnsatisfied_40, uX0_firstUnsatisfied_40, bX0_firstUnsatisfied_46, uX0_firstUnsatisfied_46, pvMk_t, pvMk_f, pvMk_n, pvRecv_r, pvUp_nl, pvUp_same, pvUp_ap, pvSt_ap, pvX_c, pvX_ms, pvX_mn, pvE_nil, pvEn_i, pvEn_r, pvEn_l, pvEn_0, pvEn_s, pvRt, pvRv, pvTh, pvKc, pvGo, pvTgt, Int.toNat_natCast, false_and, and_false, true_and, and_true, if_true, if_false, reduceIte, reduceCtorEq, forall_const, false_or, or_false, true_or, or_true, ne_eq, not_true_eq_false, not_false_eq_true, implies_true, false_implies, Nat.reduceAdd, Nat.reduceSub, Nat.reduceMul, Nat.reduceEqDiff, Nat.reduceLT, Nat.reduceLeDiff, Int.reduceAdd, Int.reduceSub, Int.reduceMul, Int.reduceNeg, Int.reduceToNat, Int.reduceLE, Int.reduceLT, Int.reduceEq, Int.reduceNe, and_self]
        simp only [blK] at hq
        (repeat' (first | with_reducible apply And.intro | intro _))
        all_goals first
          | omega
          | assumption
      | succ m ih =>
        intro k hk hq
        obtain ⟨w4, w5, w6⟩ := hT.2.2.2.2 k (by omega)
        have n4 : (4 + 3 * (k : Int) + 0).toNat = 4 + 3 * k := by omega
        have n5 : (5 + 3 * (k : Int)).toNat = 5 + 3 * k := by omega
        have n6 : (6 + 3 * (k : Int)).toNat = 6 + 3 * k := by omega
        have hp := ptF_r (v := v) (c := cT (z.1 (id + 1)) t (4 + 3 * k)) hv
        have hs := smF_r (cT (z.1 (id + 1)) t (5 + 3 * k)) (cT (z.1 (id + 1)) t (6 + 3 * k))
        have hb := bt_eq (s := smF (cT (z.1 (id + 1)) t (5 + 3 * k)) (cT (z.1 (id + 1)) t (6 + 3 * k))) (q := ptF v (cT (z.1 (id + 1)) t (4 + 3 * k))) (by omega)
        rw [sm_bit w5 w6 hp] at hb
        refine hc 20 _ _ _ fun _ _ => ?_
        simp only [pvSt1]
        simp only [C_X0_guardSize, C_X0_constraintCell, C_X7_valueOf, C_X0_satisfyingValues, n4, n5, n6, hb, pvE_iconst, pvE_istore_n3, pvS1, List.length_cons, List.length_nil, pvClr_i, pvClr_r, pvClr_l, pvClr_d, pvClr_f, pvClr_n, pvE_iload_n3, pvLI_s, pvLd, pvE_aload_n0, pvLA_s, pvE_iload_n1, pvE_invokevirtual, pvC1_s, pvC2_s, pvAf_v, pvAf_x, pvPop, pvCs, pvCat, pvPush, aX0_firstUnsatisfied_62, pvSh_0, pvSh_1, pvSh_2, pvSh_3, pvSh_4, pvSh_5, pvSh_6, pvSh_7, pvSh_8, pvSh_9, pvSh_10, pvSh_11, pvSh_12, pvSh_13, pvSh_14, pvSh_15, pvSh_16, pvSh_17, pvSh_18, pvSh_19, pvSh_20, pvSh_21, pvSh_22, pvSh_23, pvSh_24, pvSh_25, pvSh_26, pvSh_27, pvSh_28, pvSh_29, pvSh_30, pvSh_31, pvSh_32, pvSh_33, pvSh_34, pvSh_35, pvSh_36, pvSh_37, pvSh_38, pvSh_39, pvSh_40, pvSh_41, pvSh_42, pvSh_43, pvSh_44, pvSh_45, pvSh_46, pvSh_47, pvSh_48, pvSh_49, pvSh_50, pvSh_51, pvSh_52, pvSh_53, pvSh_54, pvSh_55, pvSh_56, pvSh_57, pvSh_58, pvSh_59, pvE_icmp_ge, pvE_iload_n2, aX0_firstUnsatisfied_56, pvE_invokestatic (h0 := eX0_66), aX0_firstUnsatisfied_66, pvE_istore, aX0_firstUnsatisfied_43, pvE_iload, pvE_ishr, pvE_iand, pvE_if_ne, pvE_ireturn, pvE_iinc, pvIc_s, pvE_goto, bX0_firstUnsatisfied_0, uX0_firstUnsatisfied_0, bX0_firstUnsatisfied_2, uX0_firstUnsatisfied_2, bX0_firstUnsatisfied_40, uX0_firstUnsatisfied_40, bX0_firstUnsatisfied_46, uX0_firstUnsatisfied_46, pvMk_t, pvMk_f, pvMk_n, pvRecv_r, pvUp_nl, pvUp_same, pvUp_ap, pvSt_ap, pvX_c, pvX_ms, pvX_mn, pvE_nil, pvEn_i, pvEn_r, pvEn_l, pvEn_0, pvEn_s, pvRt, pvRv, pvTh, pvKc, pvGo, pvTgt, Int.toNat_natCast, false_and, and_false, true_and, and_true, if_true, if_false, reduceIte, reduceCtorEq, forall_const, false_or, or_false, true_or, or_true, ne_eq, not_true_eq_false, not_false_eq_true, implies_true, false_implies, Nat.reduceAdd, Nat.reduceSub, Nat.reduceMul, Nat.reduceEqDiff, Nat.reduceLT, Nat.reduceLeDiff, Int.reduceAdd, Int.reduceSub, Int.reduceMul, Int.reduceNeg, Int.reduceToNat, Int.reduceLE, Int.reduceLT, Int.reduceEq, Int.reduceNe, and_self]
        simp only [blK] at hq
        have ihk := ih (k + 1) (by omega)
        (repeat' (first | with_reducible apply And.intro | intro _))
        all_goals first
          | omega
          | assumption
          | grind
    refine ⟨Nat.le_of_ble_eq_true rfl, hc 20 _ _ _ fun _ _ => ?_⟩
    simp only [pvSt1]
    simp only [pvE_iconst, pvE_istore_n3, pvS1, List.length_cons, List.length_nil, pvClr_i, pvClr_r, pvClr_l, pvClr_d, pvClr_f, pvClr_n, pvE_iload_n3, pvLI_s, pvLd, pvE_aload_n0, pvLA_s, pvE_iload_n1, pvE_invokevirtual, pvC1_s, pvC2_s, pvAf_v, pvAf_x, pvPop, pvCs, pvCat, pvPush, aX0_firstUnsatisfied_62, pvSh_0, pvSh_1, pvSh_2, pvSh_3, pvSh_4, pvSh_5, pvSh_6, pvSh_7, pvSh_8, pvSh_9, pvSh_10, pvSh_11, pvSh_12, pvSh_13, pvSh_14, pvSh_15, pvSh_16, pvSh_17, pvSh_18, pvSh_19, pvSh_20, pvSh_21, pvSh_22, pvSh_23, pvSh_24, pvSh_25, pvSh_26, pvSh_27, pvSh_28, pvSh_29, pvSh_30, pvSh_31, pvSh_32, pvSh_33, pvSh_34, pvSh_35, pvSh_36, pvSh_37, pvSh_38, pvSh_39, pvSh_40, pvSh_41, pvSh_42, pvSh_43, pvSh_44, pvSh_45, pvSh_46, pvSh_47, pvSh_48, pvSh_49, pvSh_50, pvSh_51, pvSh_52, pvSh_53, pvSh_54, pvSh_55, pvSh_56, pvSh_57, pvSh_58, pvSh_59, pvE_icmp_ge, pvE_iload_n2, aX0_firstUnsatisfied_56, pvE_invokestatic (h0 := eX0_66), aX0_firstUnsatisfied_66, pvE_istore, aX0_firstUnsatisfied_43, pvE_iload, pvE_ishr, pvE_iand, pvE_if_ne, pvE_ireturn, pvE_iinc, pvIc_s, pvE_goto, bX0_firstUnsatisfied_0, uX0_firstUnsatisfied_0, bX0_firstUnsatisfied_2, uX0_firstUnsatisfied_2, bX0_firstUnsatisfied_40, uX0_firstUnsatisfied_40, bX0_firstUnsatisfied_46, uX0_firstUnsatisfied_46, pvMk_t, pvMk_f, pvMk_n, pvRecv_r, pvUp_nl, pvUp_same, pvUp_ap, pvSt_ap, pvX_c, pvX_ms, pvX_mn, pvE_nil, pvEn_i, pvEn_r, pvEn_l, pvEn_0, pvEn_s, pvRt, pvRv, pvTh, pvKc, pvGo, pvTgt, Int.toNat_natCast, false_and, and_false, true_and, and_true, if_true, if_false, reduceIte, reduceCtorEq, forall_const, false_or, or_false, true_or, or_true, ne_eq, not_true_eq_false, not_false_eq_true, implies_true, false_implies, Nat.reduceAdd, Nat.reduceSub, Nat.reduceMul, Nat.reduceEqDiff, Nat.reduceLT, Nat.reduceLeDiff, Int.reduceAdd, Int.reduceSub, Int.reduceMul, Int.reduceNeg, Int.reduceToNat, Int.reduceLE, Int.reduceLT, Int.reduceEq, Int.reduceNe, and_self]
    (repeat' (first | with_reducible apply And.intro | intro _))
    all_goals first
      | omega
      | exact loop (cT (z.1 (id + 1)) t 3).toNat 0 (by omega) h2
  · exact h.elim
/-- the class's word: well formed, and the valuation read with each event -/
def WcF (z : Nat → Nat → Int) : Prop := WdF (z 20 4) (z 21) (z 22) ∧ ∀ k : Nat, (k : Int) < z 20 4 → z 23 k = psF (vaF (z 21) (z 22) k) (z 21 k)
theorem WcF_v {z : Nat → Nat → Int} (h : WcF z) {k : Nat} (hk : (k : Int) < z 20 4) : 0 ≤ z 23 k ∧ z 23 k < 216 := by
  rw [h.2 k hk]
  have := (h.1.2 k hk).1
  exact psF_r (by have := vaF_r h.1 k (by omega); omega)
def C_X0_statesAfterEvents : pvC
  | [.inr (.inr (.inl id)), .inr (.inr (.inl w)), .inl n], z, Q => (id = 1 ∨ id = 3) ∧ (w = 20 ∧ WfC (z.1 (id + 1)) ∧ WcF z.1 ∧ 0 ≤ n ∧ n ≤ z.1 20 4) ∧ Q (.inl (some (vI (afK (autC (z.1 (id + 1))) (z.1 21) (z.1 22) n.toNat)))) z
  | _, _, _ => False
def bX0_statesAfterEvents : Nat → List (Instr × Nat)
  | 0 => [(.aload_n 0, 1), (.invokevirtual 85, 3), (.istore_n 3, 1), (.iconst 0, 1), (.istore 4, 2)]
  | 8 => [(.iload 4, 2), (.iload_n 2, 1), (.if_icmp .ge 27, 3), (.aload_n 0, 1), (.iload_n 3, 1), (.aload_n 1, 1), (.iload 4, 2), (.invokevirtual 88, 3), (.aload_n 1, 1), (.iload 4, 2), (.invokevirtual 93, 3), (.invokevirtual 96, 3), (.istore_n 3, 1), (.iinc 4 1, 3), (.goto (-27), 3)]
  | 38 => [(.iload_n 3, 1), (.ireturn, 1)]
  | _ => []
def uX0_statesAfterEvents : Nat → Option (List Bool)
  | 8 => some [true, true, true, true, true]
  | _ => none
def aX0_statesAfterEvents : pvCa
  | 85 => some (1, false, 0, 0, C_X0_initialStates)
  | 88 => some (2, false, 6, 0, C_X6_letterAt)
  | 93 => some (2, false, 6, 0, C_X6_valuationAt)
  | 96 => some (4, false, 0, 0, C_X0_statesBehind)
  | _ => none
theorem bX0_statesAfterEvents_0 : bX0_statesAfterEvents 0 = [(.aload_n 0, 1), (.invokevirtual 85, 3), (.istore_n 3, 1), (.iconst 0, 1), (.istore 4, 2)] := rfl
theorem uX0_statesAfterEvents_0 : uX0_statesAfterEvents 0 = none := rfl
theorem bX0_statesAfterEvents_8 : bX0_statesAfterEvents 8 = [(.iload 4, 2), (.iload_n 2, 1), (.if_icmp .ge 27, 3), (.aload_n 0, 1), (.iload_n 3, 1), (.aload_n 1, 1), (.iload 4, 2), (.invokevirtual 88, 3), (.aload_n 1, 1), (.iload 4, 2), (.invokevirtual 93, 3), (.invokevirtual 96, 3), (.istore_n 3, 1), (.iinc 4 1, 3), (.goto (-27), 3)] := rfl
theorem uX0_statesAfterEvents_8 : uX0_statesAfterEvents 8 = some [true, true, true, true, true] := rfl
theorem bX0_statesAfterEvents_38 : bX0_statesAfterEvents 38 = [(.iload_n 3, 1), (.ireturn, 1)] := rfl
theorem uX0_statesAfterEvents_38 : uX0_statesAfterEvents 38 = none := rfl
theorem aX0_statesAfterEvents_85 : aX0_statesAfterEvents 85 = some (1, false, 0, 0, C_X0_initialStates) := rfl
theorem aX0_statesAfterEvents_88 : aX0_statesAfterEvents 88 = some (2, false, 6, 0, C_X6_letterAt) := rfl
theorem aX0_statesAfterEvents_93 : aX0_statesAfterEvents 93 = some (2, false, 6, 0, C_X6_valuationAt) := rfl
theorem aX0_statesAfterEvents_96 : aX0_statesAfterEvents 96 = some (4, false, 0, 0, C_X0_statesBehind) := rfl
def mX0_statesAfterEvents : Room := { frames := 5, cells := 1, slots := 6, locals := 113 }
set_option maxRecDepth 100000 in
set_option maxHeartbeats 4000000 in
theorem okX0_statesAfterEvents : pvOkM fX0 aX0_statesAfterEvents kX0 eX0 (some .int) bX0_statesAfterEvents uX0_statesAfterEvents 5 C_X0_statesAfterEvents := by
  intro Q SW hc as z h hS hz
  unfold C_X0_statesAfterEvents at h
  split at h
  · rename_i id w n
    obtain ⟨hid, ⟨rfl, hw, hd, hn⟩, h2⟩ := h
    obtain ⟨n, rfl⟩ : ∃ k : Nat, n = k := ⟨n.toNat, by omega⟩
    have hsh : pvSh id = Sum.inl 0 := by rcases hid with rfl | rfl <;> rfl
    have hd1 := hd.1.1
    rw [Int.toNat_natCast] at h2
    have loop : ∀ (m k : Nat), k + m = n → SW 8 [some (vR id), some (vR 20), some (vI (n : Int)), some (vI (afK (autC (z.1 (id + 1))) (z.1 21) (z.1 22) k)), some (vI (k : Int))] z := by
      intro m
      induction m using Nat.strongRecOn with
      | _ m ih =>
        intro k hk
        have ha := afK_r hw.1 (z.1 21) (z.1 22) k
        refine hc 20 _ _ _ fun _ _ => ?_
        simp only [pvSt1]
        simp only [C_X6_letterAt, C_X6_valuationAt, C_X0_statesBehind, pvE_aload_n0, pvLA_s, pvLd, pvE_invokevirtual, pvC1_s, pvC2_s, pvAf_v, pvAf_x, pvPop, pvCs, pvCat, pvPush, aX0_statesAfterEvents_85, pvSh_0, pvSh_1, pvSh_2, pvSh_3, pvSh_4, pvSh_5, pvSh_6, pvSh_7, pvSh_8, pvSh_9, pvSh_10, pvSh_11, pvSh_12, pvSh_13, pvSh_14, pvSh_15, pvSh_16, pvSh_17, pvSh_18, pvSh_19, pvSh_20, pvSh_21, pvSh_22, pvSh_23, pvSh_24, pvSh_25, pvSh_26, pvSh_27, pvSh_28, pvSh_29, pvSh_30, pvSh_31, pvSh_32, pvSh_33, pvSh_34, pvSh_35, pvSh_36, pvSh_37, pvSh_38, pvSh_39, pvSh_40, pvSh_41, pvSh_42, pvSh_43, pvSh_44, pvSh_45, pvSh_46, pvSh_47, pvSh_48, pvSh_49, pvSh_50, pvSh_51, pvSh_52, pvSh_53, pvSh_54, pvSh_55, pvSh_56, pvSh_57, pvSh_58, pvSh_59, pvE_istore_n3, pvS1, List.length_cons, List.length_nil, pvClr_i, pvClr_r, pvClr_l, pvClr_d, pvClr_f, pvClr_n, pvE_iconst, pvE_istore, pvE_iload, pvLI_s, pvE_iload_n2, pvE_icmp_ge, pvE_iload_n3, pvE_aload_n1, aX0_statesAfterEvents_88, aX0_statesAfterEvents_93, aX0_statesAfterEvents_96, pvE_iinc, pvIc_s, pvE_goto, pvE_ireturn, bX0_statesAfterEvents_0, uX0_statesAfterEvents_0, bX0_statesAfterEvents_8, uX0_statesAfterEvents_8, bX0_statesAfterEvents_38, uX0_statesAfterEvents_38, pvMk_t, pvMk_f, pvMk_n, pvRecv_r, pvUp_nl, pvUp_same, pvUp_ap, pvSt_ap, pvX_c, pvX_ms, pvX_mn, pvE_nil, pvEn_i, pvEn_r, pvEn_l, pvEn_0, pvEn_s, pvRt, pvRv, pvTh, pvKc, pvGo, pvTgt, Int.toNat_natCast, false_and, and_false, true_and, and_true, if_true, if_false, reduceIte, reduceCtorEq, forall_const, false_or, or_false, true_or, or_true, ne_eq, not_true_eq_false, not_false_eq_true, implies_true, false_implies, Nat.reduceAdd, Nat.reduceSub, Nat.reduceMul, Nat.reduceEqDiff, Nat.reduceLT, Nat.reduceLeDiff, Int.reduceAdd, Int.reduceSub, Int.reduceMul, Int.reduceNeg, Int.reduceToNat, Int.reduceLE, Int.reduceLT, Int.reduceEq, Int.reduceNe, and_self]
        by_cases hkn : n ≤ k
        · obtain rfl : k = n := by omega
          (repeat' (first | with_reducible apply And.intro | intro _))
          all_goals first
            | omega
            | exact h2
        · have hv := WcF_v hd (k := k) (by omega)
          have ihk : SW 8 [some (vR id), some (vR 20), some (vI (n : Int)), some (vI (afK (autC (z.1 (id + 1))) (z.1 21) (z.1 22) (k + 1))), some (vI ((k : Int) + 1))] z := ih (m - 1) (by omega) (k + 1) (by omega)
          simp only [afK, ← hd.2 k (by omega)] at ihk
          (repeat' (first | with_reducible apply And.intro | intro _))
          all_goals first
            | omega
            | assumption
    refine ⟨Nat.le_of_ble_eq_true rfl, hc 20 _ _ _ fun _ _ => ?_⟩
    simp only [pvSt1]
    simp only [C_X0_initialStates, pvE_aload_n0, pvLA_s, pvLd, pvE_invokevirtual, pvC1_s, pvC2_s, pvAf_v, pvAf_x, pvPop, pvCs, pvCat, pvPush, aX0_statesAfterEvents_85, pvSh_0, pvSh_1, pvSh_2, pvSh_3, pvSh_4, pvSh_5, pvSh_6, pvSh_7, pvSh_8, pvSh_9, pvSh_10, pvSh_11, pvSh_12, pvSh_13, pvSh_14, pvSh_15, pvSh_16, pvSh_17, pvSh_18, pvSh_19, pvSh_20, pvSh_21, pvSh_22, pvSh_23, pvSh_24, pvSh_25, pvSh_26, pvSh_27, pvSh_28, pvSh_29, pvSh_30, pvSh_31, pvSh_32, pvSh_33, pvSh_34, pvSh_35, pvSh_36, pvSh_37, pvSh_38, pvSh_39, pvSh_40, pvSh_41, pvSh_42, pvSh_43, pvSh_44, pvSh_45, pvSh_46, pvSh_47, pvSh_48, pvSh_49, pvSh_50, pvSh_51, pvSh_52, pvSh_53, pvSh_54, pvSh_55, pvSh_56, pvSh_57, pvSh_58, pvSh_59, pvE_istore_n3, pvS1, List.length_cons, List.length_nil, pvClr_i, pvClr_r, pvClr_l, pvClr_d, pvClr_f, pvClr_n, pvE_iconst, pvE_istore, pvE_iload, pvLI_s, pvE_iload_n2, pvE_icmp_ge, pvE_iload_n3, pvE_aload_n1, aX0_statesAfterEvents_88, aX0_statesAfterEvents_93, aX0_statesAfterEvents_96, pvE_iinc, pvIc_s, pvE_goto, pvE_ireturn, bX0_statesAfterEvents_0, uX0_statesAfterEvents_0, bX0_statesAfterEvents_8, uX0_statesAfterEvents_8, bX0_statesAfterEvents_38, uX0_statesAfterEvents_38, pvMk_t, pvMk_f, pvMk_n, pvRecv_r, pvUp_nl, pvUp_same, pvUp_ap, pvSt_ap, pvX_c, pvX_ms, pvX_mn, pvE_nil, pvEn_i, pvEn_r, pvEn_l, pvEn_0, pvEn_s, pvRt, pvRv, pvTh, pvKc, pvGo, pvTgt, Int.toNat_natCast, false_and, and_false, true_and, and_true, if_true, if_false, reduceIte, reduceCtorEq, forall_const, false_or, or_false, true_or, or_true, ne_eq, not_true_eq_false, not_false_eq_true, implies_true, false_implies, Nat.reduceAdd, Nat.reduceSub, Nat.reduceMul, Nat.reduceEqDiff, Nat.reduceLT, Nat.reduceLeDiff, Int.reduceAdd, Int.reduceSub, Int.reduceMul, Int.reduceNeg, Int.reduceToNat, Int.reduceLE, Int.reduceLT, Int.reduceEq, Int.reduceNe, and_self]
    (repeat' (first | with_reducible apply And.intro | intro _))
    all_goals first
      | omega
      | assumption
      | exact loop n 0 (by omega)
  · exact h.elim
def C_X0_firstUnreadable : pvC
  | [.inr (.inr (.inl id)), .inr (.inr (.inl w))], z, Q => (id = 1 ∨ id = 3) ∧ (w = 20 ∧ WfC (z.1 (id + 1)) ∧ WcF z.1) ∧
      Q (.inl (some (vI (stK (autC (z.1 (id + 1))) (z.1 21) (z.1 22) (z.1 20 4).toNat 0)))) z
  | _, _, _ => False
def bX0_firstUnreadable : Nat → List (Instr × Nat)
  | 0 => [(.aload_n 0, 1), (.invokevirtual 85, 3), (.istore_n 2, 1), (.iconst 0, 1), (.istore_n 3, 1)]
  | 7 => [(.iload_n 3, 1), (.aload_n 1, 1), (.getfield 99, 3), (.if_icmp .ge 31, 3), (.aload_n 0, 1), (.iload_n 2, 1), (.aload_n 1, 1), (.iload_n 3, 1), (.invokevirtual 88, 3), (.aload_n 1, 1), (.iload_n 3, 1), (.invokevirtual 93, 3), (.invokevirtual 96, 3), (.istore_n 2, 1), (.iload_n 2, 1), (.ifCond .ne 5, 3), (.iload_n 3, 1), (.ireturn, 1)]
  | 37 => [(.iinc 3 1, 3), (.goto (-33), 3)]
  | 43 => [(.iconst (-1), 1), (.ireturn, 1)]
  | _ => []
def uX0_firstUnreadable : Nat → Option (List Bool)
  | 7 => some [true, true, true, true]
  | _ => none
def aX0_firstUnreadable : pvCa
  | 85 => some (1, false, 0, 0, C_X0_initialStates)
  | 88 => some (2, false, 6, 0, C_X6_letterAt)
  | 93 => some (2, false, 6, 0, C_X6_valuationAt)
  | 96 => some (4, false, 0, 0, C_X0_statesBehind)
  | _ => none
theorem bX0_firstUnreadable_0 : bX0_firstUnreadable 0 = [(.aload_n 0, 1), (.invokevirtual 85, 3), (.istore_n 2, 1), (.iconst 0, 1), (.istore_n 3, 1)] := rfl
theorem uX0_firstUnreadable_0 : uX0_firstUnreadable 0 = none := rfl
theorem bX0_firstUnreadable_7 : bX0_firstUnreadable 7 = [(.iload_n 3, 1), (.aload_n 1, 1), (.getfield 99, 3), (.if_icmp .ge 31, 3), (.aload_n 0, 1), (.iload_n 2, 1), (.aload_n 1, 1), (.iload_n 3, 1), (.invokevirtual 88, 3), (.aload_n 1, 1), (.iload_n 3, 1), (.invokevirtual 93, 3), (.invokevirtual 96, 3), (.istore_n 2, 1), (.iload_n 2, 1), (.ifCond .ne 5, 3), (.iload_n 3, 1), (.ireturn, 1)] := rfl
theorem uX0_firstUnreadable_7 : uX0_firstUnreadable 7 = some [true, true, true, true] := rfl
theorem bX0_firstUnreadable_37 : bX0_firstUnreadable 37 = [(.iinc 3 1, 3), (.goto (-33), 3)] := rfl
theorem uX0_firstUnreadable_37 : uX0_firstUnreadable 37 = none := rfl
theorem bX0_firstUnreadable_43 : bX0_firstUnreadable 43 = [(.iconst (-1), 1), (.ireturn, 1)] := rfl
theorem uX0_firstUnreadable_43 : uX0_firstUnreadable 43 = none := rfl
theorem aX0_firstUnreadable_85 : aX0_firstUnreadable 85 = some (1, false, 0, 0, C_X0_initialStates) := rfl
theorem aX0_firstUnreadable_88 : aX0_firstUnreadable 88 = some (2, false, 6, 0, C_X6_letterAt) := rfl
theorem aX0_firstUnreadable_93 : aX0_firstUnreadable 93 = some (2, false, 6, 0, C_X6_valuationAt) := rfl
theorem aX0_firstUnreadable_96 : aX0_firstUnreadable 96 = some (4, false, 0, 0, C_X0_statesBehind) := rfl
def mX0_firstUnreadable : Room := { frames := 5, cells := 1, slots := 6, locals := 113 }
set_option maxRecDepth 100000 in
set_option maxHeartbeats 4000000 in
theorem okX0_firstUnreadable : pvOkM fX0 aX0_firstUnreadable kX0 eX0 (some .int) bX0_firstUnreadable uX0_firstUnreadable 4 C_X0_firstUnreadable := by
  intro Q SW hc as z h hS hz
  unfold C_X0_firstUnreadable at h
  split at h
  · rename_i id w
    obtain ⟨hid, ⟨rfl, hw, hd⟩, h2⟩ := h
    have hsh : pvSh id = Sum.inl 0 := by rcases hid with rfl | rfl <;> rfl
    have hd1 := hd.1.1
    have loop : ∀ (m k : Nat), (k : Int) + m = z.1 20 4 → Q (.inl (some (vI (stK (autC (z.1 (id + 1))) (z.1 21) (z.1 22) m k)))) z → SW 7 [some (vR id), some (vR 20), some (vI (afK (autC (z.1 (id + 1))) (z.1 21) (z.1 22) k)), some (vI (k : Int))] z := by
      intro m
      induction m with
      | zero =>
        intro k hk hq
        refine hc 20 _ _ _ fun _ _ => ?_
        simp only [pvSt1]
        simp only [C_X6_letterAt, C_X6_valuationAt, C_X0_statesBehind, pvE_aload_n0, pvLA_s, pvLd, pvE_invokevirtual, pvC1_s, pvC2_s, pvAf_v, pvAf_x, pvPop, pvCs, pvCat, pvPush, aX0_firstUnreadable_85, pvSh_0, pvSh_1, pvSh_2, pvSh_3, pvSh_4, pvSh_5, pvSh_6, pvSh_7, pvSh_8, pvSh_9, pvSh_10, pvSh_11, pvSh_12, pvSh_13, pvSh_14, pvSh_15, pvSh_16, pvSh_17, pvSh_18, pvSh_19, pvSh_20, pvSh_21, pvSh_22, pvSh_23, pvSh_24, pvSh_25, pvSh_26, pvSh_27, pvSh_28, pvSh_29, pvSh_30, pvSh_31, pvSh_32, pvSh_33, pvSh_34, pvSh_35, pvSh_36, pvSh_37, pvSh_38, pvSh_39, pvSh_40, pvSh_41, pvSh_42, pvSh_43, pvSh_44, pvSh_45, pvSh_46, pvSh_47, pvSh_48, pvSh_49, pvSh_50, pvSh_51, pvSh_52, pvSh_53, pvSh_54, pvSh_55, pvSh_56, pvSh_57, pvSh_58, pvSh_59, pvE_istore_n2, pvS1, List.length_cons, List.length_nil, pvClr_i, pvClr_r, pvClr_l, pvClr_d, pvClr_f, pvClr_n, pvE_iconst, pvE_istore_n3, pvE_iload_n3, pvLI_s, pvE_aload_n1, pvE_getfield, pvGf_0, pvGf_1, pvGf_2, fX0_99, pvRf_0_0, pvRf_0_1, pvRf_0_2, pvRf_0_3, pvRf_0_4, pvRf_0_5, pvRf_0_6, pvRf_0_7, pvRf_0_8, pvRf_0_9, pvRf_0_10, pvRf_1_0, pvRf_3_0, pvRf_5_0, pvRf_5_1, pvRf_5_2, pvRf_9_0, pvRf_9_1, pvRf_9_2, pvRf_13_0, pvRf_13_1, pvRf_13_2, pvRf_17_0, pvRf_17_2, pvRf_20_0, pvRf_20_1, pvRf_20_2, pvRf_24_0, pvRf_24_1, pvRf_24_2, pvRf_28_0, pvRf_28_1, pvRf_28_2, pvRf_28_3, pvRf_33_0, pvRf_33_1, pvRf_36_0, pvRf_36_1, pvRf_39_0, pvRf_39_1, pvRf_39_2, pvRf_39_5, pvRf_39_6, pvRf_39_9, pvRf_39_13, pvRf_39_15, pvRf_39_16, pvRf_39_17, pvRf_39_19, pvRf_39_20, pvRf_39_22, pvRf_39_23, pvRf_39_24, pvRf_39_25, pvRf_39_29, pvRf_39_30, pvE_icmp_ge, pvE_iload_n2, aX0_firstUnreadable_88, aX0_firstUnreadable_93, aX0_firstUnreadable_96, pvE_if_ne, pvE_ireturn, pvE_iinc, pvIc_s, pvE_goto, bX0_firstUnreadable_0, uX0_firstUnreadable_0, bX0_firstUnreadable_7, uX0_firstUnreadable_7, bX0_firstUnreadable_37, uX0_firstUnreadable_37, bX0_firstUnreadable_43, uX0_firstUnreadable_43, pvMk_t, pvMk_f, pvMk_n, pvRecv_r, pvUp_nl, pvUp_same, pvUp_ap, pvSt_ap, pvX_c, pvX_ms, pvX_mn, pvE_nil, pvEn_i, pvEn_r, pvEn_l, pvEn_0, pvEn_s, pvRt, pvRv, pvTh, pvKc, pvGo, pvTgt, Int.toNat_natCast, false_and, and_false, true_and, and_true, if_true, if_false, reduceIte, reduceCtorEq, forall_const, false_or, or_false, true_or, or_true, ne_eq, not_true_eq_false, not_false_eq_true, implies_true, false_implies, Nat.reduceAdd, Nat.reduceSub, Nat.reduceMul, Nat.reduceEqDiff, Nat.reduceLT, Nat.reduceLeDiff, Int.reduceAdd, Int.reduceSub, Int.reduceMul, Int.reduceNeg, Int.reduceToNat, Int.reduceLE, Int.reduceLT, Int.reduceEq, Int.reduceNe, and_self]
        simp only [stK] at hq
        (repeat' (first | with_reducible apply And.intro | intro _))
        all_goals first
          | omega
          | assumption
      | succ m ih =>
        intro k hk hq
        have ha := afK_r hw.1 (z.1 21) (z.1 22) k
        have hv := WcF_v hd (k := k) (by omega)
        refine hc 20 _ _ _ fun _ _ => ?_
        simp only [pvSt1]
        simp only [C_X6_letterAt, C_X6_valuationAt, C_X0_statesBehind, pvE_aload_n0, pvLA_s, pvLd, pvE_invokevirtual, pvC1_s, pvC2_s, pvAf_v, pvAf_x, pvPop, pvCs, pvCat, pvPush, aX0_firstUnreadable_85, pvSh_0, pvSh_1, pvSh_2, pvSh_3, pvSh_4, pvSh_5, pvSh_6, pvSh_7, pvSh_8, pvSh_9, pvSh_10, pvSh_11, pvSh_12, pvSh_13, pvSh_14, pvSh_15, pvSh_16, pvSh_17, pvSh_18, pvSh_19, pvSh_20, pvSh_21, pvSh_22, pvSh_23, pvSh_24, pvSh_25, pvSh_26, pvSh_27, pvSh_28, pvSh_29, pvSh_30, pvSh_31, pvSh_32, pvSh_33, pvSh_34, pvSh_35, pvSh_36, pvSh_37, pvSh_38, pvSh_39, pvSh_40, pvSh_41, pvSh_42, pvSh_43, pvSh_44, pvSh_45, pvSh_46, pvSh_47, pvSh_48, pvSh_49, pvSh_50, pvSh_51, pvSh_52, pvSh_53, pvSh_54, pvSh_55, pvSh_56, pvSh_57, pvSh_58, pvSh_59, pvE_istore_n2, pvS1, List.length_cons, List.length_nil, pvClr_i, pvClr_r, pvClr_l, pvClr_d, pvClr_f, pvClr_n, pvE_iconst, pvE_istore_n3, pvE_iload_n3, pvLI_s, pvE_aload_n1, pvE_getfield, pvGf_0, pvGf_1, pvGf_2, fX0_99, pvRf_0_0, pvRf_0_1, pvRf_0_2, pvRf_0_3, pvRf_0_4, pvRf_0_5, pvRf_0_6, pvRf_0_7, pvRf_0_8, pvRf_0_9, pvRf_0_10, pvRf_1_0, pvRf_3_0, pvRf_5_0, pvRf_5_1, pvRf_5_2, pvRf_9_0, pvRf_9_1, pvRf_9_2, pvRf_13_0, pvRf_13_1, pvRf_13_2, pvRf_17_0, pvRf_17_2, pvRf_20_0, pvRf_20_1, pvRf_20_2, pvRf_24_0, pvRf_24_1, pvRf_24_2, pvRf_28_0, pvRf_28_1, pvRf_28_2, pvRf_28_3, pvRf_33_0, pvRf_33_1, pvRf_36_0, pvRf_36_1, pvRf_39_0, pvRf_39_1, pvRf_39_2, pvRf_39_5, pvRf_39_6, pvRf_39_9, pvRf_39_13, pvRf_39_15, pvRf_39_16, pvRf_39_17, pvRf_39_19, pvRf_39_20, pvRf_39_22, pvRf_39_23, pvRf_39_24, pvRf_39_25, pvRf_39_29, pvRf_39_30, pvE_icmp_ge, pvE_iload_n2, aX0_firstUnreadable_88, aX0_firstUnreadable_93, aX0_firstUnreadable_96, pvE_if_ne, pvE_ireturn, pvE_iinc, pvIc_s, pvE_goto, bX0_firstUnreadable_0, uX0_firstUnreadable_0, bX0_firstUnreadable_7, uX0_firstUnreadable_7, bX0_firstUnreadable_37, uX0_firstUnreadable_37, bX0_firstUnreadable_43, uX0_firstUnreadable_43, pvMk_t, pvMk_f, pvMk_n, pvRecv_r, pvUp_nl, pvUp_same, pvUp_ap, pvSt_ap, pvX_c, pvX_ms, pvX_mn, pvE_nil, pvEn_i, pvEn_r, pvEn_l, pvEn_0, pvEn_s, pvRt, pvRv, pvTh, pvKc, pvGo, pvTgt, Int.toNat_natCast, false_and, and_false, true_and, and_true, if_true, if_false, reduceIte, reduceCtorEq, forall_const, false_or, or_false, true_or, or_true, ne_eq, not_true_eq_false, not_false_eq_true, implies_true, false_implies, Nat.reduceAdd, Nat.reduceSub, Nat.reduceMul, Nat.reduceEqDiff, Nat.reduceLT, Nat.reduceLeDiff, Int.reduceAdd, Int.reduceSub, Int.reduceMul, Int.reduceNeg, Int.reduceToNat, Int.reduceLE, Int.reduceLT, Int.reduceEq, Int.reduceNe, and_self]
        have ihk := ih (k + 1) (by omega)
        simp only [stK] at hq
        simp only [afK, ← hd.2 k (by omega)] at hq ihk
        (repeat' (first | with_reducible apply And.intro | intro _))
        all_goals first
          | omega
          | assumption
          | (rename_i e; rw [if_pos e] at hq; exact hq)
          | (rename_i e; rw [if_pos (Decidable.not_not.mp e)] at hq; exact hq)
          | (rename_i e; rw [if_neg e] at hq; exact ihk hq)
    refine ⟨Nat.le_of_ble_eq_true rfl, hc 20 _ _ _ fun _ _ => ?_⟩
    simp only [pvSt1]
    simp only [C_X0_initialStates, pvE_aload_n0, pvLA_s, pvLd, pvE_invokevirtual, pvC1_s, pvC2_s, pvAf_v, pvAf_x, pvPop, pvCs, pvCat, pvPush, aX0_firstUnreadable_85, pvSh_0, pvSh_1, pvSh_2, pvSh_3, pvSh_4, pvSh_5, pvSh_6, pvSh_7, pvSh_8, pvSh_9, pvSh_10, pvSh_11, pvSh_12, pvSh_13, pvSh_14, pvSh_15, pvSh_16, pvSh_17, pvSh_18, pvSh_19, pvSh_20, pvSh_21, pvSh_22, pvSh_23, pvSh_24, pvSh_25, pvSh_26, pvSh_27, pvSh_28, pvSh_29, pvSh_30, pvSh_31, pvSh_32, pvSh_33, pvSh_34, pvSh_35, pvSh_36, pvSh_37, pvSh_38, pvSh_39, pvSh_40, pvSh_41, pvSh_42, pvSh_43, pvSh_44, pvSh_45, pvSh_46, pvSh_47, pvSh_48, pvSh_49, pvSh_50, pvSh_51, pvSh_52, pvSh_53, pvSh_54, pvSh_55, pvSh_56, pvSh_57, pvSh_58, pvSh_59, pvE_istore_n2, pvS1, List.length_cons, List.length_nil, pvClr_i, pvClr_r, pvClr_l, pvClr_d, pvClr_f, pvClr_n, pvE_iconst, pvE_istore_n3, pvE_iload_n3, pvLI_s, pvE_aload_n1, pvE_getfield, pvGf_0, pvGf_1, pvGf_2, fX0_99, pvRf_0_0, pvRf_0_1, pvRf_0_2, pvRf_0_3, pvRf_0_4, pvRf_0_5, pvRf_0_6, pvRf_0_7, pvRf_0_8, pvRf_0_9, pvRf_0_10, pvRf_1_0, pvRf_3_0, pvRf_5_0, pvRf_5_1, pvRf_5_2, pvRf_9_0, pvRf_9_1, pvRf_9_2, pvRf_13_0, pvRf_13_1, pvRf_13_2, pvRf_17_0, pvRf_17_2, pvRf_20_0, pvRf_20_1, pvRf_20_2, pvRf_24_0, pvRf_24_1, pvRf_24_2, pvRf_28_0, pvRf_28_1, pvRf_28_2, pvRf_28_3, pvRf_33_0, pvRf_33_1, pvRf_36_0, pvRf_36_1, pvRf_39_0, pvRf_39_1, pvRf_39_2, pvRf_39_5, pvRf_39_6, pvRf_39_9, pvRf_39_13, pvRf_39_15, pvRf_39_16, pvRf_39_17, pvRf_39_19, pvRf_39_20, pvRf_39_22, pvRf_39_23, pvRf_39_24, pvRf_39_25, pvRf_39_29, pvRf_39_30, pvE_icmp_ge, pvE_iload_n2, aX0_firstUnreadable_88, aX0_firstUnreadable_93, aX0_firstUnreadable_96, pvE_if_ne, pvE_ireturn, pvE_iinc, pvIc_s, pvE_goto, bX0_firstUnreadable_0, uX0_firstUnreadable_0, bX0_firstUnreadable_7, uX0_firstUnreadable_7, bX0_firstUnreadable_37, uX0_firstUnreadable_37, bX0_firstUnreadable_43, uX0_firstUnreadable_43, pvMk_t, pvMk_f, pvMk_n, pvRecv_r, pvUp_nl, pvUp_same, pvUp_ap, pvSt_ap, pvX_c, pvX_ms, pvX_mn, pvE_nil, pvEn_i, pvEn_r, pvEn_l, pvEn_0, pvEn_s, pvRt, pvRv, pvTh, pvKc, pvGo, pvTgt, Int.toNat_natCast, false_and, and_false, true_and, and_true, if_true, if_false, reduceIte, reduceCtorEq, forall_const, false_or, or_false, true_or, or_true, ne_eq, not_true_eq_false, not_false_eq_true, implies_true, false_implies, Nat.reduceAdd, Nat.reduceSub, Nat.reduceMul, Nat.reduceEqDiff, Nat.reduceLT, Nat.reduceLeDiff, Int.reduceAdd, Int.reduceSub, Int.reduceMul, Int.reduceNeg, Int.reduceToNat, Int.reduceLE, Int.reduceLT, Int.reduceEq, Int.reduceNe, and_self]
    (repeat' (first | with_reducible apply And.intro | intro _))
    all_goals first
      | omega
      | assumption
      | exact loop (z.1 20 4).toNat 0 (by omega) h2
  · exact h.elim
/-- the first transition, from the k-th on, that reads from a state into a set -/
def fmK (T : Nat → Nat → Int) (q set a v : Int) : Nat → Nat → Int
  | 0, _ => -1
  | m + 1, k => if T k 0 = q ∧ btF set (T k 2) = true ∧ T k 1 = a ∧ blF (T k) v < 0 then k else fmK T q set a v m (k + 1)
def C_X0_firstMove : pvC
  | [.inr (.inr (.inl id)), .inl q, .inl set, .inr (.inr (.inl w)), .inl i], z, Q => (id = 1 ∨ id = 3) ∧ (w = 20 ∧ WfC (z.1 (id + 1)) ∧ WcF z.1 ∧ (0 ≤ set ∧ set ≤ 15) ∧ 0 ≤ i ∧ i < z.1 20 4) ∧
      Q (.inl (some (vI (fmK (autC (z.1 (id + 1))).2.2.2 q set (z.1 22 i.toNat) (z.1 23 i.toNat) (z.1 (id + 1) 0).toNat 0)))) z
  | _, _, _ => False
def bX0_firstMove : Nat → List (Instr × Nat)
  | 0 => [(.iconst 0, 1), (.istore 5, 2)]
  | 3 => [(.iload 5, 2), (.aload_n 0, 1), (.invokevirtual 23, 3), (.if_icmp .ge 58, 3), (.aload_n 0, 1), (.iload 5, 2), (.iconst 0, 1), (.invokevirtual 19, 3), (.iload_n 1, 1), (.if_icmp .ne 41, 3), (.iload_n 2, 1), (.aload_n 0, 1), (.iload 5, 2), (.iconst 2, 1), (.invokevirtual 19, 3), (.invokestatic 78, 3), (.ifCond .eq 27, 3), (.aload_n 0, 1), (.iload 5, 2), (.aload_n 3, 1), (.iload 4, 2), (.invokevirtual 88, 3), (.aload_n 3, 1), (.iload 4, 2), (.invokevirtual 93, 3), (.invokevirtual 81, 3), (.ifCond .eq 6, 3), (.iload 5, 2), (.ireturn, 1)]
  | 61 => [(.iinc 5 1, 3), (.goto (-61), 3)]
  | 67 => [(.iconst (-1), 1), (.ireturn, 1)]
  | _ => []
def uX0_firstMove : Nat → Option (List Bool)
  | 3 => some [true, true, true, true, true, true]
  | _ => none
def aX0_firstMove : pvCa
  | 19 => some (3, false, 0, 0, C_X0_cell)
  | 23 => some (1, false, 0, 0, C_X0_size)
  | 78 => some (2, true, 0, 0, C_X9_hasState)
  | 81 => some (4, false, 0, 0, C_X0_canRead)
  | 88 => some (2, false, 6, 0, C_X6_letterAt)
  | 93 => some (2, false, 6, 0, C_X6_valuationAt)
  | _ => none
theorem bX0_firstMove_0 : bX0_firstMove 0 = [(.iconst 0, 1), (.istore 5, 2)] := rfl
theorem uX0_firstMove_0 : uX0_firstMove 0 = none := rfl
theorem bX0_firstMove_3 : bX0_firstMove 3 = [(.iload 5, 2), (.aload_n 0, 1), (.invokevirtual 23, 3), (.if_icmp .ge 58, 3), (.aload_n 0, 1), (.iload 5, 2), (.iconst 0, 1), (.invokevirtual 19, 3), (.iload_n 1, 1), (.if_icmp .ne 41, 3), (.iload_n 2, 1), (.aload_n 0, 1), (.iload 5, 2), (.iconst 2, 1), (.invokevirtual 19, 3), (.invokestatic 78, 3), (.ifCond .eq 27, 3), (.aload_n 0, 1), (.iload 5, 2), (.aload_n 3, 1), (.iload 4, 2), (.invokevirtual 88, 3), (.aload_n 3, 1), (.iload 4, 2), (.invokevirtual 93, 3), (.invokevirtual 81, 3), (.ifCond .eq 6, 3), (.iload 5, 2), (.ireturn, 1)] := rfl
theorem uX0_firstMove_3 : uX0_firstMove 3 = some [true, true, true, true, true, true] := rfl
theorem bX0_firstMove_61 : bX0_firstMove 61 = [(.iinc 5 1, 3), (.goto (-61), 3)] := rfl
theorem uX0_firstMove_61 : uX0_firstMove 61 = none := rfl
theorem bX0_firstMove_67 : bX0_firstMove 67 = [(.iconst (-1), 1), (.ireturn, 1)] := rfl
theorem uX0_firstMove_67 : uX0_firstMove 67 = none := rfl
theorem aX0_firstMove_19 : aX0_firstMove 19 = some (3, false, 0, 0, C_X0_cell) := rfl
theorem aX0_firstMove_23 : aX0_firstMove 23 = some (1, false, 0, 0, C_X0_size) := rfl
theorem aX0_firstMove_78 : aX0_firstMove 78 = some (2, true, 0, 0, C_X9_hasState) := rfl
theorem aX0_firstMove_81 : aX0_firstMove 81 = some (4, false, 0, 0, C_X0_canRead) := rfl
theorem aX0_firstMove_88 : aX0_firstMove 88 = some (2, false, 6, 0, C_X6_letterAt) := rfl
theorem aX0_firstMove_93 : aX0_firstMove 93 = some (2, false, 6, 0, C_X6_valuationAt) := rfl
def mX0_firstMove : Room := { frames := 4, cells := 1, slots := 6, locals := 88 }
set_option maxRecDepth 100000 in
set_option maxHeartbeats 4000000 in
theorem okX0_firstMove : pvOkM fX0 aX0_firstMove kX0 eX0 (some .int) bX0_firstMove uX0_firstMove 6 C_X0_firstMove := by
  intro Q SW hc as z h hS hz
  unfold C_X0_firstMove at h
  split at h
  · rename_i id q set w i
    obtain ⟨hid, ⟨rfl, hw, hd, hset, hi⟩, h2⟩ := h
    have hsh : pvSh id = Sum.inl 0 := by rcases hid with rfl | rfl <;> rfl
    have hn : 0 ≤ z.1 (id + 1) 0 ∧ z.1 (id + 1) 0 ≤ 10 := hw.1.1
    have hd1 := hd.1.1
    obtain ⟨i, rfl⟩ : ∃ n : Nat, i = n := ⟨i.toNat, by omega⟩
    have hv := WcF_v hd hi.2
    rw [Int.toNat_natCast] at h2
    have loop : ∀ (m k : Nat), (k : Int) + m = z.1 (id + 1) 0 → Q (.inl (some (vI (fmK (autC (z.1 (id + 1))).2.2.2 q set (z.1 22 i) (z.1 23 i) m k)))) z → SW 3 [some (vR id), some (vI q), some (vI set), some (vR 20), some (vI (i : Int)), some (vI (k : Int))] z := by
      intro m
      induction m with
      | zero =>
        intro k hk hq
        refine hc 20 _ _ _ fun _ _ => ?_
        simp only [pvSt1]
        simp only [C_X0_size, C_X0_cell, C_X9_hasState, C_X6_letterAt, C_X6_valuationAt, C_X0_canRead, pvE_iconst, pvE_istore, pvS1, List.length_cons, List.length_nil, pvClr_i, pvClr_r, pvClr_l, pvClr_d, pvClr_f, pvClr_n, pvE_iload, pvLI_s, pvLd, pvE_aload_n0, pvLA_s, pvE_invokevirtual, pvC1_s, pvC2_s, pvAf_v, pvAf_x, pvPop, pvCs, pvCat, pvPush, aX0_firstMove_23, pvSh_0, pvSh_1, pvSh_2, pvSh_3, pvSh_4, pvSh_5, pvSh_6, pvSh_7, pvSh_8, pvSh_9, pvSh_10, pvSh_11, pvSh_12, pvSh_13, pvSh_14, pvSh_15, pvSh_16, pvSh_17, pvSh_18, pvSh_19, pvSh_20, pvSh_21, pvSh_22, pvSh_23, pvSh_24, pvSh_25, pvSh_26, pvSh_27, pvSh_28, pvSh_29, pvSh_30, pvSh_31, pvSh_32, pvSh_33, pvSh_34, pvSh_35, pvSh_36, pvSh_37, pvSh_38, pvSh_39, pvSh_40, pvSh_41, pvSh_42, pvSh_43, pvSh_44, pvSh_45, pvSh_46, pvSh_47, pvSh_48, pvSh_49, pvSh_50, pvSh_51, pvSh_52, pvSh_53, pvSh_54, pvSh_55, pvSh_56, pvSh_57, pvSh_58, pvSh_59, pvE_icmp_ge, aX0_firstMove_19, pvE_iload_n1, pvE_icmp_ne, pvE_iload_n2, pvE_invokestatic (h0 := eX0_78), aX0_firstMove_78, pvE_if_eq, pvE_aload_n3, aX0_firstMove_88, aX0_firstMove_93, aX0_firstMove_81, pvE_ireturn, pvE_iinc, pvIc_s, pvE_goto, bX0_firstMove_0, uX0_firstMove_0, bX0_firstMove_3, uX0_firstMove_3, bX0_firstMove_61, uX0_firstMove_61, bX0_firstMove_67, uX0_firstMove_67, pvMk_t, pvMk_f, pvMk_n, pvRecv_r, pvUp_nl, pvUp_same, pvUp_ap, pvSt_ap, pvX_c, pvX_ms, pvX_mn, pvE_nil, pvEn_i, pvEn_r, pvEn_l, pvEn_0, pvEn_s, pvRt, pvRv, pvTh, pvKc, pvGo, pvTgt, Int.toNat_natCast, false_and, and_false, true_and, and_true, if_true, if_false, reduceIte, reduceCtorEq, forall_const, false_or, or_false, true_or, or_true, ne_eq, not_true_eq_false, not_false_eq_true, implies_true, false_implies, Nat.reduceAdd, Nat.reduceSub, Nat.reduceMul, Nat.reduceEqDiff, Nat.reduceLT, Nat.reduceLeDiff, Int.reduceAdd, Int.reduceSub, Int.reduceMul, Int.reduceNeg, Int.reduceToNat, Int.reduceLE, Int.reduceLT, Int.reduceEq, Int.reduceNe, and_self]
        simp only [fmK] at hq
        (repeat' (first | with_reducible apply And.intro | intro _))
        all_goals first
          | omega
          | assumption
      | succ m ih =>
        intro k hk hq
        have hT := autC_w hw (t := k) (by omega)
        have e0 := hT.1
        have e2 := hT.2.2.1
        have e := autC_T (f := z.1 (id + 1)) (t := k) (by show (k : Int) < z.1 (id + 1) 0; omega)
        refine hc 20 _ _ _ fun _ _ => ?_
        simp only [pvSt1]
        simp only [C_X0_size, C_X0_cell, C_X9_hasState, C_X6_letterAt, C_X6_valuationAt, C_X0_canRead, pvE_iconst, pvE_istore, pvS1, List.length_cons, List.length_nil, pvClr_i, pvClr_r, pvClr_l, pvClr_d, pvClr_f, pvClr_n, pvE_iload, pvLI_s, pvLd, pvE_aload_n0, pvLA_s, pvE_invokevirtual, pvC1_s, pvC2_s, pvAf_v, pvAf_x, pvPop, pvCs, pvCat, pvPush, aX0_firstMove_23, pvSh_0, pvSh_1, pvSh_2, pvSh_3, pvSh_4, pvSh_5, pvSh_6, pvSh_7, pvSh_8, pvSh_9, pvSh_10, pvSh_11, pvSh_12, pvSh_13, pvSh_14, pvSh_15, pvSh_16, pvSh_17, pvSh_18, pvSh_19, pvSh_20, pvSh_21, pvSh_22, pvSh_23, pvSh_24, pvSh_25, pvSh_26, pvSh_27, pvSh_28, pvSh_29, pvSh_30, pvSh_31, pvSh_32, pvSh_33, pvSh_34, pvSh_35, pvSh_36, pvSh_37, pvSh_38, pvSh_39, pvSh_40, pvSh_41, pvSh_42, pvSh_43, pvSh_44, pvSh_45, pvSh_46, pvSh_47, pvSh_48, pvSh_49, pvSh_50, pvSh_51, pvSh_52, pvSh_53, pvSh_54, pvSh_55, pvSh_56, pvSh_57, pvSh_58, pvSh_59, pvE_icmp_ge, aX0_firstMove_19, pvE_iload_n1, pvE_icmp_ne, pvE_iload_n2, pvE_invokestatic (h0 := eX0_78), aX0_firstMove_78, pvE_if_eq, pvE_aload_n3, aX0_firstMove_88, aX0_firstMove_93, aX0_firstMove_81, pvE_ireturn, pvE_iinc, pvIc_s, pvE_goto, bX0_firstMove_0, uX0_firstMove_0, bX0_firstMove_3, uX0_firstMove_3, bX0_firstMove_61, uX0_firstMove_61, bX0_firstMove_67, uX0_firstMove_67, pvMk_t, pvMk_f, pvMk_n, pvRecv_r, pvUp_nl, pvUp_same, pvUp_ap, pvSt_ap, pvX_c, pvX_ms, pvX_mn, pvE_nil, pvEn_i, pvEn_r, pvEn_l, pvEn_0, pvEn_s, pvRt, pvRv, pvTh, pvKc, pvGo, pvTgt, Int.toNat_natCast, false_and, and_false, true_and, and_true, if_true, if_false, reduceIte, reduceCtorEq, forall_const, false_or, or_false, true_or, or_true, ne_eq, not_true_eq_false, not_false_eq_true, implies_true, false_implies, Nat.reduceAdd, Nat.reduceSub, Nat.reduceMul, Nat.reduceEqDiff, Nat.reduceLT, Nat.reduceLeDiff, Int.reduceAdd, Int.reduceSub, Int.reduceMul, Int.reduceNeg, Int.reduceToNat, Int.reduceLE, Int.reduceLT, Int.reduceEq, Int.reduceNe, and_self]
        have ihk := ih (k + 1) (by omega)
        simp only [fmK, e, nrT_s (show 0 < 4 by decide), nrT_s (show 1 < 4 by decide), nrT_s (show 2 < 4 by decide), blF_nr] at hq
        (repeat' (first | with_reducible apply And.intro | intro _))
        all_goals first
          | omega
          | assumption
          | grind
    refine ⟨Nat.le_of_ble_eq_true rfl, hc 20 _ _ _ fun _ _ => ?_⟩
    simp only [pvSt1]
    simp only [pvE_iconst, pvE_istore, pvS1, List.length_cons, List.length_nil, pvClr_i, pvClr_r, pvClr_l, pvClr_d, pvClr_f, pvClr_n, pvE_iload, pvLI_s, pvLd, pvE_aload_n0, pvLA_s, pvE_invokevirtual, pvC1_s, pvC2_s, pvAf_v, pvAf_x, pvPop, pvCs, pvCat, pvPush, aX0_firstMove_23, pvSh_0, pvSh_1, pvSh_2, pvSh_3, pvSh_4, pvSh_5, pvSh_6, pvSh_7, pvSh_8, pvSh_9, pvSh_10, pvSh_11, pvSh_12, pvSh_13, pvSh_14, pvSh_15, pvSh_16, pvSh_17, pvSh_18, pvSh_19, pvSh_20, pvSh_21, pvSh_22, pvSh_23, pvSh_24, pvSh_25, pvSh_26, pvSh_27, pvSh_28, pvSh_29, pvSh_30, pvSh_31, pvSh_32, pvSh_33, pvSh_34, pvSh_35, pvSh_36, pvSh_37, pvSh_38, pvSh_39, pvSh_40, pvSh_41, pvSh_42, pvSh_43, pvSh_44, pvSh_45, pvSh_46, pvSh_47, pvSh_48, pvSh_49, pvSh_50, pvSh_51, pvSh_52, pvSh_53, pvSh_54, pvSh_55, pvSh_56, pvSh_57, pvSh_58, pvSh_59, pvE_icmp_ge, aX0_firstMove_19, pvE_iload_n1, pvE_icmp_ne, pvE_iload_n2, pvE_invokestatic (h0 := eX0_78), aX0_firstMove_78, pvE_if_eq, pvE_aload_n3, aX0_firstMove_88, aX0_firstMove_93, aX0_firstMove_81, pvE_ireturn, pvE_iinc, pvIc_s, pvE_goto, bX0_firstMove_0, uX0_firstMove_0, bX0_firstMove_3, uX0_firstMove_3, bX0_firstMove_61, uX0_firstMove_61, bX0_firstMove_67, uX0_firstMove_67, pvMk_t, pvMk_f, pvMk_n, pvRecv_r, pvUp_nl, pvUp_same, pvUp_ap, pvSt_ap, pvX_c, pvX_ms, pvX_mn, pvE_nil, pvEn_i, pvEn_r, pvEn_l, pvEn_0, pvEn_s, pvRt, pvRv, pvTh, pvKc, pvGo, pvTgt, Int.toNat_natCast, false_and, and_false, true_and, and_true, if_true, if_false, reduceIte, reduceCtorEq, forall_const, false_or, or_false, true_or, or_true, ne_eq, not_true_eq_false, not_false_eq_true, implies_true, false_implies, Nat.reduceAdd, Nat.reduceSub, Nat.reduceMul, Nat.reduceEqDiff, Nat.reduceLT, Nat.reduceLeDiff, Int.reduceAdd, Int.reduceSub, Int.reduceMul, Int.reduceNeg, Int.reduceToNat, Int.reduceLE, Int.reduceLT, Int.reduceEq, Int.reduceNe, and_self]
    (repeat' (first | with_reducible apply And.intro | intro _))
    all_goals first
      | omega
      | exact loop (z.1 (id + 1) 0).toNat 0 (by omega) h2
  · exact h.elim
