def cT (f : Nat → Int) (t c : Nat) : Int := f (3 + 17 * t + c)
def autC (f : Nat → Int) : Aut := abA (f 0) (f 1) (f 2) (cT f)
/-- a well-formed row: the automaton, and each transition's allowed values as bits -/
def WfC (f : Nat → Int) : Prop := WfA (autC f) ∧ ∀ t : Nat, (t : Int) < f 0 → (0 ≤ cT f t 16 ∧ cT f t 16 < 262144) ∧ ∀ v : Nat, v < 216 → (alF (cT f t 16) v = true ↔ blF (cT f t) v < 0)
theorem cT_eq (f : Nat → Int) {E : Int} {t c : Nat} (h : E = 3 + 17 * t + c) : f E.toNat = cT f t c := by
  unfold cT
  rw [show E.toNat = 3 + 17 * t + c by omega]
theorem autC_T {f : Nat → Int} {t : Nat} (h : (t : Int) < (autC f).1) : (autC f).2.2.2 t = nrT (cT f t) := if_pos h
theorem autC_w {f : Nat → Int} (h : WfC f) {t : Nat} (ht : (t : Int) < f 0) : TwF (cT f t) := by
  have q := h.1.2.2.2 t ht
  rw [autC_T ht] at q
  exact TwF_nr q
def C_X0_size : pvC
  | [.inr (.inr (.inl id))], z, Q => (id = 1 ∨ id = 3) ∧ Q (.inl (some (vI (z.1 (id + 1) 0)))) z
  | _, _, _ => False
def bX0_size : Nat → List (Instr × Nat)
  | 0 => [(.aload_n 0, 1), (.getfield 11, 3), (.iconst 0, 1), (.iaload, 1), (.ireturn, 1)]
  | _ => []
def uX0_size : Nat → Option (List Bool)
  | _ => none
def aX0_size : pvCa
  | _ => none
theorem bX0_size_0 : bX0_size 0 = [(.aload_n 0, 1), (.getfield 11, 3), (.iconst 0, 1), (.iaload, 1), (.ireturn, 1)] := rfl
theorem uX0_size_0 : uX0_size 0 = none := rfl
set_option maxRecDepth 100000 in
set_option maxHeartbeats 4000000 in
theorem okX0_size : pvOkM fX0 aX0_size kX0 eX0 (some .int) bX0_size uX0_size 1 C_X0_size := by
  intro Q SW hc as z h hS hz
  unfold C_X0_size at h
  split at h
  · rename_i id
    obtain ⟨hid, h⟩ := h
    refine ⟨Nat.le_of_ble_eq_true rfl, hc 20 _ _ _ fun _ _ => ?_⟩
    clear hc hS
    rcases hid with rfl | rfl <;>
    (try simp only [Nat.reduceAdd] at h) <;>
    (simp only [pvSt1]
     simp only [pvE_aload_n0, pvLA_s, pvLd, pvE_getfield, pvGf_0, pvGf_1, pvGf_2, fX0_11, pvSh_0, pvSh_1, pvSh_2, pvSh_3, pvSh_4, pvSh_5, pvSh_6, pvSh_7, pvSh_8, pvSh_9, pvSh_10, pvSh_11, pvSh_12, pvSh_13, pvSh_14, pvSh_15, pvSh_16, pvSh_17, pvSh_18, pvSh_19, pvSh_20, pvSh_21, pvSh_22, pvSh_23, pvSh_24, pvSh_25, pvSh_26, pvSh_27, pvSh_28, pvSh_29, pvSh_30, pvSh_31, pvSh_32, pvSh_33, pvSh_34, pvSh_35, pvSh_36, pvSh_37, pvSh_38, pvRf_0_0, pvRf_0_1, pvRf_0_2, pvRf_0_3, pvRf_0_4, pvRf_0_5, pvRf_0_6, pvRf_0_7, pvRf_0_8, pvRf_0_9, pvRf_0_10, pvRf_1_0, pvRf_3_0, pvRf_5_0, pvRf_5_1, pvRf_5_2, pvRf_9_0, pvRf_9_1, pvRf_9_2, pvRf_13_0, pvRf_13_1, pvRf_13_2, pvRf_17_0, pvRf_17_2, pvRf_20_0, pvRf_20_1, pvRf_20_2, pvRf_24_0, pvRf_24_1, pvRf_24_2, pvRf_28_0, pvRf_28_1, pvRf_28_2, pvRf_28_3, pvRf_33_0, pvRf_33_1, pvRf_36_0, pvRf_36_1, pvE_iconst, pvE_iaload, pvAI, pvE_ireturn, bX0_size_0, uX0_size_0, pvRtG, pvRecv_r, pvUp_nl, pvUp_same, pvUp_ap, pvSt_ap, pvX_c, pvX_ms, pvX_mn, pvE_nil, pvEn_i, pvEn_r, pvEn_l, pvEn_0, pvEn_s, pvRt, pvRv, pvTh, pvKc, pvGo, pvTgt, Int.toNat_natCast, false_and, and_false, true_and, and_true, if_true, if_false, reduceIte, reduceCtorEq, forall_const, false_or, or_false, true_or, or_true, ne_eq, not_true_eq_false, not_false_eq_true, implies_true, false_implies, Nat.reduceAdd, Nat.reduceSub, Nat.reduceMul, Nat.reduceEqDiff, Nat.reduceLT, Nat.reduceLeDiff, Int.reduceAdd, Int.reduceSub, Int.reduceMul, Int.reduceNeg, Int.reduceToNat, Int.reduceLE, Int.reduceLT, Int.reduceEq, Int.reduceNe, and_self]
     grind)
  · exact h.elim
def C_X0_initialStates : pvC
  | [.inr (.inr (.inl id))], z, Q => (id = 1 ∨ id = 3) ∧ Q (.inl (some (vI (z.1 (id + 1) 1)))) z
  | _, _, _ => False
def bX0_initialStates : Nat → List (Instr × Nat)
  | 0 => [(.aload_n 0, 1), (.getfield 11, 3), (.iconst 1, 1), (.iaload, 1), (.ireturn, 1)]
  | _ => []
def uX0_initialStates : Nat → Option (List Bool)
  | _ => none
def aX0_initialStates : pvCa
  | _ => none
theorem bX0_initialStates_0 : bX0_initialStates 0 = [(.aload_n 0, 1), (.getfield 11, 3), (.iconst 1, 1), (.iaload, 1), (.ireturn, 1)] := rfl
theorem uX0_initialStates_0 : uX0_initialStates 0 = none := rfl
set_option maxRecDepth 100000 in
set_option maxHeartbeats 4000000 in
theorem okX0_initialStates : pvOkM fX0 aX0_initialStates kX0 eX0 (some .int) bX0_initialStates uX0_initialStates 1 C_X0_initialStates := by
  intro Q SW hc as z h hS hz
  unfold C_X0_initialStates at h
  split at h
  · rename_i id
    obtain ⟨hid, h⟩ := h
    refine ⟨Nat.le_of_ble_eq_true rfl, hc 20 _ _ _ fun _ _ => ?_⟩
    clear hc hS
    rcases hid with rfl | rfl <;>
    (try simp only [Nat.reduceAdd] at h) <;>
    (simp only [pvSt1]
     simp only [pvE_aload_n0, pvLA_s, pvLd, pvE_getfield, pvGf_0, pvGf_1, pvGf_2, fX0_11, pvSh_0, pvSh_1, pvSh_2, pvSh_3, pvSh_4, pvSh_5, pvSh_6, pvSh_7, pvSh_8, pvSh_9, pvSh_10, pvSh_11, pvSh_12, pvSh_13, pvSh_14, pvSh_15, pvSh_16, pvSh_17, pvSh_18, pvSh_19, pvSh_20, pvSh_21, pvSh_22, pvSh_23, pvSh_24, pvSh_25, pvSh_26, pvSh_27, pvSh_28, pvSh_29, pvSh_30, pvSh_31, pvSh_32, pvSh_33, pvSh_34, pvSh_35, pvSh_36, pvSh_37, pvSh_38, pvRf_0_0, pvRf_0_1, pvRf_0_2, pvRf_0_3, pvRf_0_4, pvRf_0_5, pvRf_0_6, pvRf_0_7, pvRf_0_8, pvRf_0_9, pvRf_0_10, pvRf_1_0, pvRf_3_0, pvRf_5_0, pvRf_5_1, pvRf_5_2, pvRf_9_0, pvRf_9_1, pvRf_9_2, pvRf_13_0, pvRf_13_1, pvRf_13_2, pvRf_17_0, pvRf_17_2, pvRf_20_0, pvRf_20_1, pvRf_20_2, pvRf_24_0, pvRf_24_1, pvRf_24_2, pvRf_28_0, pvRf_28_1, pvRf_28_2, pvRf_28_3, pvRf_33_0, pvRf_33_1, pvRf_36_0, pvRf_36_1, pvE_iconst, pvE_iaload, pvAI, pvE_ireturn, bX0_initialStates_0, uX0_initialStates_0, pvRtG, pvRecv_r, pvUp_nl, pvUp_same, pvUp_ap, pvSt_ap, pvX_c, pvX_ms, pvX_mn, pvE_nil, pvEn_i, pvEn_r, pvEn_l, pvEn_0, pvEn_s, pvRt, pvRv, pvTh, pvKc, pvGo, pvTgt, Int.toNat_natCast, false_and, and_false, true_and, and_true, if_true, if_false, reduceIte, reduceCtorEq, forall_const, false_or, or_false, true_or, or_true, ne_eq, not_true_eq_false, not_false_eq_true, implies_true, false_implies, Nat.reduceAdd, Nat.reduceSub, Nat.reduceMul, Nat.reduceEqDiff, Nat.reduceLT, Nat.reduceLeDiff, Int.reduceAdd, Int.reduceSub, Int.reduceMul, Int.reduceNeg, Int.reduceToNat, Int.reduceLE, Int.reduceLT, Int.reduceEq, Int.reduceNe, and_self]
     grind)
  · exact h.elim
def C_X0_finalStates : pvC
  | [.inr (.inr (.inl id))], z, Q => (id = 1 ∨ id = 3) ∧ Q (.inl (some (vI (z.1 (id + 1) 2)))) z
  | _, _, _ => False
def bX0_finalStates : Nat → List (Instr × Nat)
  | 0 => [(.aload_n 0, 1), (.getfield 11, 3), (.iconst 2, 1), (.iaload, 1), (.ireturn, 1)]
  | _ => []
def uX0_finalStates : Nat → Option (List Bool)
  | _ => none
def aX0_finalStates : pvCa
  | _ => none
theorem bX0_finalStates_0 : bX0_finalStates 0 = [(.aload_n 0, 1), (.getfield 11, 3), (.iconst 2, 1), (.iaload, 1), (.ireturn, 1)] := rfl
theorem uX0_finalStates_0 : uX0_finalStates 0 = none := rfl
set_option maxRecDepth 100000 in
set_option maxHeartbeats 4000000 in
theorem okX0_finalStates : pvOkM fX0 aX0_finalStates kX0 eX0 (some .int) bX0_finalStates uX0_finalStates 1 C_X0_finalStates := by
  intro Q SW hc as z h hS hz
  unfold C_X0_finalStates at h
  split at h
  · rename_i id
    obtain ⟨hid, h⟩ := h
    refine ⟨Nat.le_of_ble_eq_true rfl, hc 20 _ _ _ fun _ _ => ?_⟩
    clear hc hS
    rcases hid with rfl | rfl <;>
    (try simp only [Nat.reduceAdd] at h) <;>
    (simp only [pvSt1]
     simp only [pvE_aload_n0, pvLA_s, pvLd, pvE_getfield, pvGf_0, pvGf_1, pvGf_2, fX0_11, pvSh_0, pvSh_1, pvSh_2, pvSh_3, pvSh_4, pvSh_5, pvSh_6, pvSh_7, pvSh_8, pvSh_9, pvSh_10, pvSh_11, pvSh_12, pvSh_13, pvSh_14, pvSh_15, pvSh_16, pvSh_17, pvSh_18, pvSh_19, pvSh_20, pvSh_21, pvSh_22, pvSh_23, pvSh_24, pvSh_25, pvSh_26, pvSh_27, pvSh_28, pvSh_29, pvSh_30, pvSh_31, pvSh_32, pvSh_33, pvSh_34, pvSh_35, pvSh_36, pvSh_37, pvSh_38, pvRf_0_0, pvRf_0_1, pvRf_0_2, pvRf_0_3, pvRf_0_4, pvRf_0_5, pvRf_0_6, pvRf_0_7, pvRf_0_8, pvRf_0_9, pvRf_0_10, pvRf_1_0, pvRf_3_0, pvRf_5_0, pvRf_5_1, pvRf_5_2, pvRf_9_0, pvRf_9_1, pvRf_9_2, pvRf_13_0, pvRf_13_1, pvRf_13_2, pvRf_17_0, pvRf_17_2, pvRf_20_0, pvRf_20_1, pvRf_20_2, pvRf_24_0, pvRf_24_1, pvRf_24_2, pvRf_28_0, pvRf_28_1, pvRf_28_2, pvRf_28_3, pvRf_33_0, pvRf_33_1, pvRf_36_0, pvRf_36_1, pvE_iconst, pvE_iaload, pvAI, pvE_ireturn, bX0_finalStates_0, uX0_finalStates_0, pvRtG, pvRecv_r, pvUp_nl, pvUp_same, pvUp_ap, pvSt_ap, pvX_c, pvX_ms, pvX_mn, pvE_nil, pvEn_i, pvEn_r, pvEn_l, pvEn_0, pvEn_s, pvRt, pvRv, pvTh, pvKc, pvGo, pvTgt, Int.toNat_natCast, false_and, and_false, true_and, and_true, if_true, if_false, reduceIte, reduceCtorEq, forall_const, false_or, or_false, true_or, or_true, ne_eq, not_true_eq_false, not_false_eq_true, implies_true, false_implies, Nat.reduceAdd, Nat.reduceSub, Nat.reduceMul, Nat.reduceEqDiff, Nat.reduceLT, Nat.reduceLeDiff, Int.reduceAdd, Int.reduceSub, Int.reduceMul, Int.reduceNeg, Int.reduceToNat, Int.reduceLE, Int.reduceLT, Int.reduceEq, Int.reduceNe, and_self]
     grind)
  · exact h.elim
def C_X0_putInitialStates : pvC
  | [.inr (.inr (.inl id)), .inl v], z, Q => (id = 1 ∨ id = 3) ∧ Q (.inl none) (pvUp z.1 (id + 1) 1 v, z.2)
  | _, _, _ => False
def bX0_putInitialStates : Nat → List (Instr × Nat)
  | 0 => [(.aload_n 0, 1), (.getfield 11, 3), (.iconst 1, 1), (.iload_n 1, 1), (.iastore, 1), (.return_, 1)]
  | _ => []
def uX0_putInitialStates : Nat → Option (List Bool)
  | _ => none
def aX0_putInitialStates : pvCa
  | _ => none
theorem bX0_putInitialStates_0 : bX0_putInitialStates 0 = [(.aload_n 0, 1), (.getfield 11, 3), (.iconst 1, 1), (.iload_n 1, 1), (.iastore, 1), (.return_, 1)] := rfl
theorem uX0_putInitialStates_0 : uX0_putInitialStates 0 = none := rfl
set_option maxRecDepth 100000 in
set_option maxHeartbeats 4000000 in
theorem okX0_putInitialStates : pvOkM fX0 aX0_putInitialStates kX0 eX0 none bX0_putInitialStates uX0_putInitialStates 2 C_X0_putInitialStates := by
  intro Q SW hc as z h hS hz
  unfold C_X0_putInitialStates at h
  split at h
  · rename_i id v
    obtain ⟨hid, h⟩ := h
    refine ⟨Nat.le_of_ble_eq_true rfl, hc 20 _ _ _ fun _ _ => ?_⟩
    clear hc hS
    rcases hid with rfl | rfl <;>
    (try simp only [Nat.reduceAdd] at h) <;>
    (simp only [pvSt1]
     simp only [pvE_aload_n0, pvLA_s, pvLd, pvE_getfield, pvGf_0, pvGf_1, pvGf_2, fX0_11, pvSh_0, pvSh_1, pvSh_2, pvSh_3, pvSh_4, pvSh_5, pvSh_6, pvSh_7, pvSh_8, pvSh_9, pvSh_10, pvSh_11, pvSh_12, pvSh_13, pvSh_14, pvSh_15, pvSh_16, pvSh_17, pvSh_18, pvSh_19, pvSh_20, pvSh_21, pvSh_22, pvSh_23, pvSh_24, pvSh_25, pvSh_26, pvSh_27, pvSh_28, pvSh_29, pvSh_30, pvSh_31, pvSh_32, pvSh_33, pvSh_34, pvSh_35, pvSh_36, pvSh_37, pvSh_38, pvRf_0_0, pvRf_0_1, pvRf_0_2, pvRf_0_3, pvRf_0_4, pvRf_0_5, pvRf_0_6, pvRf_0_7, pvRf_0_8, pvRf_0_9, pvRf_0_10, pvRf_1_0, pvRf_3_0, pvRf_5_0, pvRf_5_1, pvRf_5_2, pvRf_9_0, pvRf_9_1, pvRf_9_2, pvRf_13_0, pvRf_13_1, pvRf_13_2, pvRf_17_0, pvRf_17_2, pvRf_20_0, pvRf_20_1, pvRf_20_2, pvRf_24_0, pvRf_24_1, pvRf_24_2, pvRf_28_0, pvRf_28_1, pvRf_28_2, pvRf_28_3, pvRf_33_0, pvRf_33_1, pvRf_36_0, pvRf_36_1, pvE_iconst, pvE_iload_n1, pvLI_s, pvE_iastore, pvAI, pvE_return, bX0_putInitialStates_0, uX0_putInitialStates_0, pvRtG, pvRecv_r, pvUp_nl, pvUp_same, pvUp_ap, pvSt_ap, pvX_c, pvX_ms, pvX_mn, pvE_nil, pvEn_i, pvEn_r, pvEn_l, pvEn_0, pvEn_s, pvRt, pvRv, pvTh, pvKc, pvGo, pvTgt, Int.toNat_natCast, false_and, and_false, true_and, and_true, if_true, if_false, reduceIte, reduceCtorEq, forall_const, false_or, or_false, true_or, or_true, ne_eq, not_true_eq_false, not_false_eq_true, implies_true, false_implies, Nat.reduceAdd, Nat.reduceSub, Nat.reduceMul, Nat.reduceEqDiff, Nat.reduceLT, Nat.reduceLeDiff, Int.reduceAdd, Int.reduceSub, Int.reduceMul, Int.reduceNeg, Int.reduceToNat, Int.reduceLE, Int.reduceLT, Int.reduceEq, Int.reduceNe, and_self]
     grind)
  · exact h.elim
def C_X0_putFinalStates : pvC
  | [.inr (.inr (.inl id)), .inl v], z, Q => (id = 1 ∨ id = 3) ∧ Q (.inl none) (pvUp z.1 (id + 1) 2 v, z.2)
  | _, _, _ => False
def bX0_putFinalStates : Nat → List (Instr × Nat)
  | 0 => [(.aload_n 0, 1), (.getfield 11, 3), (.iconst 2, 1), (.iload_n 1, 1), (.iastore, 1), (.return_, 1)]
  | _ => []
def uX0_putFinalStates : Nat → Option (List Bool)
  | _ => none
def aX0_putFinalStates : pvCa
  | _ => none
theorem bX0_putFinalStates_0 : bX0_putFinalStates 0 = [(.aload_n 0, 1), (.getfield 11, 3), (.iconst 2, 1), (.iload_n 1, 1), (.iastore, 1), (.return_, 1)] := rfl
theorem uX0_putFinalStates_0 : uX0_putFinalStates 0 = none := rfl
set_option maxRecDepth 100000 in
set_option maxHeartbeats 4000000 in
theorem okX0_putFinalStates : pvOkM fX0 aX0_putFinalStates kX0 eX0 none bX0_putFinalStates uX0_putFinalStates 2 C_X0_putFinalStates := by
  intro Q SW hc as z h hS hz
  unfold C_X0_putFinalStates at h
  split at h
  · rename_i id v
    obtain ⟨hid, h⟩ := h
    refine ⟨Nat.le_of_ble_eq_true rfl, hc 20 _ _ _ fun _ _ => ?_⟩
    clear hc hS
    rcases hid with rfl | rfl <;>
    (try simp only [Nat.reduceAdd] at h) <;>
    (simp only [pvSt1]
     simp only [pvE_aload_n0, pvLA_s, pvLd, pvE_getfield, pvGf_0, pvGf_1, pvGf_2, fX0_11, pvSh_0, pvSh_1, pvSh_2, pvSh_3, pvSh_4, pvSh_5, pvSh_6, pvSh_7, pvSh_8, pvSh_9, pvSh_10, pvSh_11, pvSh_12, pvSh_13, pvSh_14, pvSh_15, pvSh_16, pvSh_17, pvSh_18, pvSh_19, pvSh_20, pvSh_21, pvSh_22, pvSh_23, pvSh_24, pvSh_25, pvSh_26, pvSh_27, pvSh_28, pvSh_29, pvSh_30, pvSh_31, pvSh_32, pvSh_33, pvSh_34, pvSh_35, pvSh_36, pvSh_37, pvSh_38, pvRf_0_0, pvRf_0_1, pvRf_0_2, pvRf_0_3, pvRf_0_4, pvRf_0_5, pvRf_0_6, pvRf_0_7, pvRf_0_8, pvRf_0_9, pvRf_0_10, pvRf_1_0, pvRf_3_0, pvRf_5_0, pvRf_5_1, pvRf_5_2, pvRf_9_0, pvRf_9_1, pvRf_9_2, pvRf_13_0, pvRf_13_1, pvRf_13_2, pvRf_17_0, pvRf_17_2, pvRf_20_0, pvRf_20_1, pvRf_20_2, pvRf_24_0, pvRf_24_1, pvRf_24_2, pvRf_28_0, pvRf_28_1, pvRf_28_2, pvRf_28_3, pvRf_33_0, pvRf_33_1, pvRf_36_0, pvRf_36_1, pvE_iconst, pvE_iload_n1, pvLI_s, pvE_iastore, pvAI, pvE_return, bX0_putFinalStates_0, uX0_putFinalStates_0, pvRtG, pvRecv_r, pvUp_nl, pvUp_same, pvUp_ap, pvSt_ap, pvX_c, pvX_ms, pvX_mn, pvE_nil, pvEn_i, pvEn_r, pvEn_l, pvEn_0, pvEn_s, pvRt, pvRv, pvTh, pvKc, pvGo, pvTgt, Int.toNat_natCast, false_and, and_false, true_and, and_true, if_true, if_false, reduceIte, reduceCtorEq, forall_const, false_or, or_false, true_or, or_true, ne_eq, not_true_eq_false, not_false_eq_true, implies_true, false_implies, Nat.reduceAdd, Nat.reduceSub, Nat.reduceMul, Nat.reduceEqDiff, Nat.reduceLT, Nat.reduceLeDiff, Int.reduceAdd, Int.reduceSub, Int.reduceMul, Int.reduceNeg, Int.reduceToNat, Int.reduceLE, Int.reduceLT, Int.reduceEq, Int.reduceNe, and_self]
     grind)
  · exact h.elim
def C_X0_cell : pvC
  | [.inr (.inr (.inl id)), .inl t, .inl c], z, Q => (id = 1 ∨ id = 3) ∧ (0 ≤ t ∧ t ≤ 9 ∧ 0 ≤ c ∧ c ≤ 16) ∧ Q (.inl (some (vI (cT (z.1 (id + 1)) t.toNat c.toNat)))) z
  | _, _, _ => False
def bX0_cell : Nat → List (Instr × Nat)
  | 0 => [(.iconst 3, 1), (.bipush 17, 2), (.iload_n 1, 1), (.imul, 1), (.iadd, 1), (.iload_n 2, 1), (.iadd, 1), (.istore_n 3, 1), (.iload_n 3, 1), (.sipush 173, 3), (.invokestatic 15, 3), (.ifCond .eq 12, 3), (.aload_n 0, 1), (.getfield 11, 3), (.iload_n 3, 1), (.iaload, 1), (.goto 4, 3)]
  | 28 => [(.iconst 0, 1)]
  | 29 => [(.ireturn, 1)]
  | _ => []
def uX0_cell : Nat → Option (List Bool)
  | _ => none
def aX0_cell : pvCa
  | 15 => some (2, true, 0, 0, C_X9_isIndex)
  | _ => none
theorem bX0_cell_0 : bX0_cell 0 = [(.iconst 3, 1), (.bipush 17, 2), (.iload_n 1, 1), (.imul, 1), (.iadd, 1), (.iload_n 2, 1), (.iadd, 1), (.istore_n 3, 1), (.iload_n 3, 1), (.sipush 173, 3), (.invokestatic 15, 3), (.ifCond .eq 12, 3), (.aload_n 0, 1), (.getfield 11, 3), (.iload_n 3, 1), (.iaload, 1), (.goto 4, 3)] := rfl
theorem uX0_cell_0 : uX0_cell 0 = none := rfl
theorem bX0_cell_28 : bX0_cell 28 = [(.iconst 0, 1)] := rfl
theorem uX0_cell_28 : uX0_cell 28 = none := rfl
theorem bX0_cell_29 : bX0_cell 29 = [(.ireturn, 1)] := rfl
theorem uX0_cell_29 : uX0_cell 29 = none := rfl
theorem aX0_cell_15 : aX0_cell 15 = some (2, true, 0, 0, C_X9_isIndex) := rfl
set_option maxRecDepth 100000 in
set_option maxHeartbeats 4000000 in
theorem okX0_cell : pvOkM fX0 aX0_cell kX0 eX0 (some .int) bX0_cell uX0_cell 4 C_X0_cell := by
  intro Q SW hc as z h hS hz
  unfold C_X0_cell at h
  split at h
  · rename_i id t c
    obtain ⟨hid, h1, h2⟩ := h
    rw [← cT_eq (z.1 (id + 1)) (E := 3 + 17 * t + c) (by omega)] at h2
    refine ⟨Nat.le_of_ble_eq_true rfl, hc 20 _ _ _ fun _ _ => ?_⟩
    clear hc hS
    rcases hid with rfl | rfl <;> simp only [Nat.reduceAdd] at h2 <;>
    (simp only [pvSt1]
     simp only [C_X9_isIndex, pvE_iconst, pvE_bipush, pvE_iload_n1, pvLI_s, pvLd, pvE_imul, pvE_iadd, pvE_iload_n2, pvE_istore_n3, pvS1, List.length_cons, List.length_nil, pvClr_i, pvClr_r, pvClr_l, pvClr_d, pvClr_f, pvClr_n, pvE_iload_n3, pvE_sipush, pvE_invokestatic (h0 := eX0_15), pvC1_s, pvC2_s, pvAf_v, pvAf_x, pvPop, pvCs, pvCat, pvPush, aX0_cell_15, pvE_if_eq, pvE_aload_n0, pvLA_s, pvE_getfield, pvGf_0, pvGf_1, pvGf_2, fX0_11, pvSh_0, pvSh_1, pvSh_2, pvSh_3, pvSh_4, pvSh_5, pvSh_6, pvSh_7, pvSh_8, pvSh_9, pvSh_10, pvSh_11, pvSh_12, pvSh_13, pvSh_14, pvSh_15, pvSh_16, pvSh_17, pvSh_18, pvSh_19, pvSh_20, pvSh_21, pvSh_22, pvSh_23, pvSh_24, pvSh_25, pvSh_26, pvSh_27, pvSh_28, pvSh_29, pvSh_30, pvSh_31, pvSh_32, pvSh_33, pvSh_34, pvSh_35, pvSh_36, pvSh_37, pvSh_38, pvRf_0_0, pvRf_0_1, pvRf_0_2, pvRf_0_3, pvRf_0_4, pvRf_0_5, pvRf_0_6, pvRf_0_7, pvRf_0_8, pvRf_0_9, pvRf_0_10, pvRf_1_0, pvRf_3_0, pvRf_5_0, pvRf_5_1, pvRf_5_2, pvRf_9_0, pvRf_9_1, pvRf_9_2, pvRf_13_0, pvRf_13_1, pvRf_13_2, pvRf_17_0, pvRf_17_2, pvRf_20_0, pvRf_20_1, pvRf_20_2, pvRf_24_0, pvRf_24_1, pvRf_24_2, pvRf_28_0, pvRf_28_1, pvRf_28_2, pvRf_28_3, pvRf_33_0, pvRf_33_1, pvRf_36_0, pvRf_36_1, pvE_iaload, pvAI, pvE_goto, pvE_ireturn, bX0_cell_0, uX0_cell_0, bX0_cell_28, uX0_cell_28, bX0_cell_29, uX0_cell_29, pvRtG, pvRecv_r, pvUp_nl, pvUp_same, pvUp_ap, pvSt_ap, pvX_c, pvX_ms, pvX_mn, pvE_nil, pvEn_i, pvEn_r, pvEn_l, pvEn_0, pvEn_s, pvRt, pvRv, pvTh, pvKc, pvGo, pvTgt, Int.toNat_natCast, false_and, and_false, true_and, and_true, if_true, if_false, reduceIte, reduceCtorEq, forall_const, false_or, or_false, true_or, or_true, ne_eq, not_true_eq_false, not_false_eq_true, implies_true, false_implies, Nat.reduceAdd, Nat.reduceSub, Nat.reduceMul, Nat.reduceEqDiff, Nat.reduceLT, Nat.reduceLeDiff, Int.reduceAdd, Int.reduceSub, Int.reduceMul, Int.reduceNeg, Int.reduceToNat, Int.reduceLE, Int.reduceLT, Int.reduceEq, Int.reduceNe, and_self]
     (repeat' (first | with_reducible apply And.intro | intro _))
     all_goals first
       | omega
       | assumption)
  · exact h.elim
def C_X0_letter : pvC
  | [.inr (.inr (.inl id)), .inl t], z, Q => (id = 1 ∨ id = 3) ∧ (0 ≤ t ∧ t ≤ 9) ∧ Q (.inl (some (vI (cT (z.1 (id + 1)) t.toNat 1)))) z
  | _, _, _ => False
def bX0_letter : Nat → List (Instr × Nat)
  | 0 => [(.aload_n 0, 1), (.iload_n 1, 1), (.iconst 1, 1), (.invokevirtual 19, 3), (.ireturn, 1)]
  | _ => []
def uX0_letter : Nat → Option (List Bool)
  | _ => none
def aX0_letter : pvCa
  | 19 => some (3, false, 0, 0, C_X0_cell)
  | _ => none
theorem bX0_letter_0 : bX0_letter 0 = [(.aload_n 0, 1), (.iload_n 1, 1), (.iconst 1, 1), (.invokevirtual 19, 3), (.ireturn, 1)] := rfl
theorem uX0_letter_0 : uX0_letter 0 = none := rfl
theorem aX0_letter_19 : aX0_letter 19 = some (3, false, 0, 0, C_X0_cell) := rfl
set_option maxRecDepth 100000 in
set_option maxHeartbeats 4000000 in
theorem okX0_letter : pvOkM fX0 aX0_letter kX0 eX0 (some .int) bX0_letter uX0_letter 2 C_X0_letter := by
  intro Q SW hc as z h hS hz
  unfold C_X0_letter at h
  split at h
  · rename_i id t
    obtain ⟨hid, h⟩ := h
    refine ⟨Nat.le_of_ble_eq_true rfl, hc 20 _ _ _ fun _ _ => ?_⟩
    clear hc hS
    rcases hid with rfl | rfl <;>
    (try simp only [Nat.reduceAdd] at h) <;>
    (simp only [pvSt1]
     simp only [C_X0_cell, pvE_aload_n0, pvLA_s, pvLd, pvE_iload_n1, pvLI_s, pvE_iconst, pvE_invokevirtual, pvC1_s, pvC2_s, pvAf_v, pvAf_x, pvPop, pvCs, pvCat, pvPush, aX0_letter_19, pvSh_0, pvSh_1, pvSh_2, pvSh_3, pvSh_4, pvSh_5, pvSh_6, pvSh_7, pvSh_8, pvSh_9, pvSh_10, pvSh_11, pvSh_12, pvSh_13, pvSh_14, pvSh_15, pvSh_16, pvSh_17, pvSh_18, pvSh_19, pvSh_20, pvSh_21, pvSh_22, pvSh_23, pvSh_24, pvSh_25, pvSh_26, pvSh_27, pvSh_28, pvSh_29, pvSh_30, pvSh_31, pvSh_32, pvSh_33, pvSh_34, pvSh_35, pvSh_36, pvSh_37, pvSh_38, pvE_ireturn, bX0_letter_0, uX0_letter_0, pvRtG, pvRecv_r, pvUp_nl, pvUp_same, pvUp_ap, pvSt_ap, pvX_c, pvX_ms, pvX_mn, pvE_nil, pvEn_i, pvEn_r, pvEn_l, pvEn_0, pvEn_s, pvRt, pvRv, pvTh, pvKc, pvGo, pvTgt, Int.toNat_natCast, false_and, and_false, true_and, and_true, if_true, if_false, reduceIte, reduceCtorEq, forall_const, false_or, or_false, true_or, or_true, ne_eq, not_true_eq_false, not_false_eq_true, implies_true, false_implies, Nat.reduceAdd, Nat.reduceSub, Nat.reduceMul, Nat.reduceEqDiff, Nat.reduceLT, Nat.reduceLeDiff, Int.reduceAdd, Int.reduceSub, Int.reduceMul, Int.reduceNeg, Int.reduceToNat, Int.reduceLE, Int.reduceLT, Int.reduceEq, Int.reduceNe, and_self]
     grind)
  · exact h.elim
def C_X0_allowed : pvC
  | [.inr (.inr (.inl id)), .inl t], z, Q => (id = 1 ∨ id = 3) ∧ (0 ≤ t ∧ t ≤ 9) ∧ Q (.inl (some (vI (cT (z.1 (id + 1)) t.toNat 16)))) z
  | _, _, _ => False
def bX0_allowed : Nat → List (Instr × Nat)
  | 0 => [(.aload_n 0, 1), (.iload_n 1, 1), (.bipush 16, 2), (.invokevirtual 19, 3), (.ireturn, 1)]
  | _ => []
def uX0_allowed : Nat → Option (List Bool)
  | _ => none
def aX0_allowed : pvCa
  | 19 => some (3, false, 0, 0, C_X0_cell)
  | _ => none
theorem bX0_allowed_0 : bX0_allowed 0 = [(.aload_n 0, 1), (.iload_n 1, 1), (.bipush 16, 2), (.invokevirtual 19, 3), (.ireturn, 1)] := rfl
theorem uX0_allowed_0 : uX0_allowed 0 = none := rfl
theorem aX0_allowed_19 : aX0_allowed 19 = some (3, false, 0, 0, C_X0_cell) := rfl
set_option maxRecDepth 100000 in
set_option maxHeartbeats 4000000 in
theorem okX0_allowed : pvOkM fX0 aX0_allowed kX0 eX0 (some .int) bX0_allowed uX0_allowed 2 C_X0_allowed := by
  intro Q SW hc as z h hS hz
  unfold C_X0_allowed at h
  split at h
  · rename_i id t
    obtain ⟨hid, h⟩ := h
    refine ⟨Nat.le_of_ble_eq_true rfl, hc 20 _ _ _ fun _ _ => ?_⟩
    clear hc hS
    rcases hid with rfl | rfl <;>
    (try simp only [Nat.reduceAdd] at h) <;>
    (simp only [pvSt1]
     simp only [C_X0_cell, pvE_aload_n0, pvLA_s, pvLd, pvE_iload_n1, pvLI_s, pvE_bipush, pvE_invokevirtual, pvC1_s, pvC2_s, pvAf_v, pvAf_x, pvPop, pvCs, pvCat, pvPush, aX0_allowed_19, pvSh_0, pvSh_1, pvSh_2, pvSh_3, pvSh_4, pvSh_5, pvSh_6, pvSh_7, pvSh_8, pvSh_9, pvSh_10, pvSh_11, pvSh_12, pvSh_13, pvSh_14, pvSh_15, pvSh_16, pvSh_17, pvSh_18, pvSh_19, pvSh_20, pvSh_21, pvSh_22, pvSh_23, pvSh_24, pvSh_25, pvSh_26, pvSh_27, pvSh_28, pvSh_29, pvSh_30, pvSh_31, pvSh_32, pvSh_33, pvSh_34, pvSh_35, pvSh_36, pvSh_37, pvSh_38, pvE_ireturn, bX0_allowed_0, uX0_allowed_0, pvRtG, pvRecv_r, pvUp_nl, pvUp_same, pvUp_ap, pvSt_ap, pvX_c, pvX_ms, pvX_mn, pvE_nil, pvEn_i, pvEn_r, pvEn_l, pvEn_0, pvEn_s, pvRt, pvRv, pvTh, pvKc, pvGo, pvTgt, Int.toNat_natCast, false_and, and_false, true_and, and_true, if_true, if_false, reduceIte, reduceCtorEq, forall_const, false_or, or_false, true_or, or_true, ne_eq, not_true_eq_false, not_false_eq_true, implies_true, false_implies, Nat.reduceAdd, Nat.reduceSub, Nat.reduceMul, Nat.reduceEqDiff, Nat.reduceLT, Nat.reduceLeDiff, Int.reduceAdd, Int.reduceSub, Int.reduceMul, Int.reduceNeg, Int.reduceToNat, Int.reduceLE, Int.reduceLT, Int.reduceEq, Int.reduceNe, and_self]
     grind)
  · exact h.elim
def C_X0_constraintCell : pvC
  | [.inr (.inr (.inl id)), .inl t, .inl i, .inl c], z, Q => (id = 1 ∨ id = 3) ∧ (0 ≤ t ∧ t ≤ 9 ∧ 0 ≤ i ∧ i ≤ 3 ∧ 0 ≤ c ∧ c ≤ 2) ∧ Q (.inl (some (vI (cT (z.1 (id + 1)) t.toNat (4 + 3 * i + c).toNat)))) z
  | _, _, _ => False
def bX0_constraintCell : Nat → List (Instr × Nat)
  | 0 => [(.aload_n 0, 1), (.iload_n 1, 1), (.iconst 4, 1), (.iconst 3, 1), (.iload_n 2, 1), (.imul, 1), (.iadd, 1), (.iload_n 3, 1), (.iadd, 1), (.invokevirtual 19, 3), (.ireturn, 1)]
  | _ => []
def uX0_constraintCell : Nat → Option (List Bool)
  | _ => none
def aX0_constraintCell : pvCa
  | 19 => some (3, false, 0, 0, C_X0_cell)
  | _ => none
theorem bX0_constraintCell_0 : bX0_constraintCell 0 = [(.aload_n 0, 1), (.iload_n 1, 1), (.iconst 4, 1), (.iconst 3, 1), (.iload_n 2, 1), (.imul, 1), (.iadd, 1), (.iload_n 3, 1), (.iadd, 1), (.invokevirtual 19, 3), (.ireturn, 1)] := rfl
theorem uX0_constraintCell_0 : uX0_constraintCell 0 = none := rfl
theorem aX0_constraintCell_19 : aX0_constraintCell 19 = some (3, false, 0, 0, C_X0_cell) := rfl
set_option maxRecDepth 100000 in
set_option maxHeartbeats 4000000 in
theorem okX0_constraintCell : pvOkM fX0 aX0_constraintCell kX0 eX0 (some .int) bX0_constraintCell uX0_constraintCell 4 C_X0_constraintCell := by
  intro Q SW hc as z h hS hz
  unfold C_X0_constraintCell at h
  split at h
  · rename_i id t i c
    obtain ⟨hid, h⟩ := h
    refine ⟨Nat.le_of_ble_eq_true rfl, hc 20 _ _ _ fun _ _ => ?_⟩
    clear hc hS
    rcases hid with rfl | rfl <;>
    (try simp only [Nat.reduceAdd] at h) <;>
    (simp only [pvSt1]
     simp only [C_X0_cell, pvE_aload_n0, pvLA_s, pvLd, pvE_iload_n1, pvLI_s, pvE_iconst, pvE_iload_n2, pvE_imul, pvE_iadd, pvE_iload_n3, pvE_invokevirtual, pvC1_s, pvC2_s, pvAf_v, pvAf_x, pvPop, pvCs, pvCat, pvPush, aX0_constraintCell_19, pvSh_0, pvSh_1, pvSh_2, pvSh_3, pvSh_4, pvSh_5, pvSh_6, pvSh_7, pvSh_8, pvSh_9, pvSh_10, pvSh_11, pvSh_12, pvSh_13, pvSh_14, pvSh_15, pvSh_16, pvSh_17, pvSh_18, pvSh_19, pvSh_20, pvSh_21, pvSh_22, pvSh_23, pvSh_24, pvSh_25, pvSh_26, pvSh_27, pvSh_28, pvSh_29, pvSh_30, pvSh_31, pvSh_32, pvSh_33, pvSh_34, pvSh_35, pvSh_36, pvSh_37, pvSh_38, pvE_ireturn, bX0_constraintCell_0, uX0_constraintCell_0, pvRtG, pvRecv_r, pvUp_nl, pvUp_same, pvUp_ap, pvSt_ap, pvX_c, pvX_ms, pvX_mn, pvE_nil, pvEn_i, pvEn_r, pvEn_l, pvEn_0, pvEn_s, pvRt, pvRv, pvTh, pvKc, pvGo, pvTgt, Int.toNat_natCast, false_and, and_false, true_and, and_true, if_true, if_false, reduceIte, reduceCtorEq, forall_const, false_or, or_false, true_or, or_true, ne_eq, not_true_eq_false, not_false_eq_true, implies_true, false_implies, Nat.reduceAdd, Nat.reduceSub, Nat.reduceMul, Nat.reduceEqDiff, Nat.reduceLT, Nat.reduceLeDiff, Int.reduceAdd, Int.reduceSub, Int.reduceMul, Int.reduceNeg, Int.reduceToNat, Int.reduceLE, Int.reduceLT, Int.reduceEq, Int.reduceNe, and_self]
     grind)
  · exact h.elim
def C_X0_putCell : pvC
  | [.inr (.inr (.inl id)), .inl t, .inl c, .inl v], z, Q => (id = 1 ∨ id = 3) ∧ (0 ≤ t ∧ t ≤ 9 ∧ 0 ≤ c ∧ c ≤ 16) ∧ Q (.inl none) (pvUp z.1 (id + 1) (3 + 17 * t + c).toNat v, z.2)
  | _, _, _ => False
def bX0_putCell : Nat → List (Instr × Nat)
  | 0 => [(.iconst 3, 1), (.bipush 17, 2), (.iload_n 1, 1), (.imul, 1), (.iadd, 1), (.iload_n 2, 1), (.iadd, 1), (.istore 4, 2), (.iload 4, 2), (.sipush 173, 3), (.invokestatic 15, 3), (.ifCond .eq 11, 3), (.aload_n 0, 1), (.getfield 11, 3), (.iload 4, 2), (.iload_n 3, 1), (.iastore, 1)]
  | 29 => [(.return_, 1)]
  | _ => []
def uX0_putCell : Nat → Option (List Bool)
  | _ => none
def aX0_putCell : pvCa
  | 15 => some (2, true, 0, 0, C_X9_isIndex)
  | _ => none
theorem bX0_putCell_0 : bX0_putCell 0 = [(.iconst 3, 1), (.bipush 17, 2), (.iload_n 1, 1), (.imul, 1), (.iadd, 1), (.iload_n 2, 1), (.iadd, 1), (.istore 4, 2), (.iload 4, 2), (.sipush 173, 3), (.invokestatic 15, 3), (.ifCond .eq 11, 3), (.aload_n 0, 1), (.getfield 11, 3), (.iload 4, 2), (.iload_n 3, 1), (.iastore, 1)] := rfl
theorem uX0_putCell_0 : uX0_putCell 0 = none := rfl
theorem bX0_putCell_29 : bX0_putCell 29 = [(.return_, 1)] := rfl
theorem uX0_putCell_29 : uX0_putCell 29 = none := rfl
theorem aX0_putCell_15 : aX0_putCell 15 = some (2, true, 0, 0, C_X9_isIndex) := rfl
set_option maxRecDepth 100000 in
set_option maxHeartbeats 4000000 in
theorem okX0_putCell : pvOkM fX0 aX0_putCell kX0 eX0 none bX0_putCell uX0_putCell 5 C_X0_putCell := by
  intro Q SW hc as z h hS hz
  unfold C_X0_putCell at h
  split at h
  · rename_i id t c v
    obtain ⟨hid, h⟩ := h
    refine ⟨Nat.le_of_ble_eq_true rfl, hc 20 _ _ _ fun _ _ => ?_⟩
    clear hc hS
    rcases hid with rfl | rfl <;>
    (try simp only [Nat.reduceAdd] at h) <;>
    (simp only [pvSt1]
     simp only [C_X9_isIndex, pvE_iconst, pvE_bipush, pvE_iload_n1, pvLI_s, pvLd, pvE_imul, pvE_iadd, pvE_iload_n2, pvE_istore, pvS1, List.length_cons, List.length_nil, pvClr_i, pvClr_r, pvClr_l, pvClr_d, pvClr_f, pvClr_n, pvE_iload, pvE_sipush, pvE_invokestatic (h0 := eX0_15), pvC1_s, pvC2_s, pvAf_v, pvAf_x, pvPop, pvCs, pvCat, pvPush, aX0_putCell_15, pvE_if_eq, pvE_aload_n0, pvLA_s, pvE_getfield, pvGf_0, pvGf_1, pvGf_2, fX0_11, pvSh_0, pvSh_1, pvSh_2, pvSh_3, pvSh_4, pvSh_5, pvSh_6, pvSh_7, pvSh_8, pvSh_9, pvSh_10, pvSh_11, pvSh_12, pvSh_13, pvSh_14, pvSh_15, pvSh_16, pvSh_17, pvSh_18, pvSh_19, pvSh_20, pvSh_21, pvSh_22, pvSh_23, pvSh_24, pvSh_25, pvSh_26, pvSh_27, pvSh_28, pvSh_29, pvSh_30, pvSh_31, pvSh_32, pvSh_33, pvSh_34, pvSh_35, pvSh_36, pvSh_37, pvSh_38, pvRf_0_0, pvRf_0_1, pvRf_0_2, pvRf_0_3, pvRf_0_4, pvRf_0_5, pvRf_0_6, pvRf_0_7, pvRf_0_8, pvRf_0_9, pvRf_0_10, pvRf_1_0, pvRf_3_0, pvRf_5_0, pvRf_5_1, pvRf_5_2, pvRf_9_0, pvRf_9_1, pvRf_9_2, pvRf_13_0, pvRf_13_1, pvRf_13_2, pvRf_17_0, pvRf_17_2, pvRf_20_0, pvRf_20_1, pvRf_20_2, pvRf_24_0, pvRf_24_1, pvRf_24_2, pvRf_28_0, pvRf_28_1, pvRf_28_2, pvRf_28_3, pvRf_33_0, pvRf_33_1, pvRf_36_0, pvRf_36_1, pvE_iload_n3, pvE_iastore, pvAI, pvE_return, bX0_putCell_0, uX0_putCell_0, bX0_putCell_29, uX0_putCell_29, pvRtG, pvRecv_r, pvUp_nl, pvUp_same, pvUp_ap, pvSt_ap, pvX_c, pvX_ms, pvX_mn, pvE_nil, pvEn_i, pvEn_r, pvEn_l, pvEn_0, pvEn_s, pvRt, pvRv, pvTh, pvKc, pvGo, pvTgt, Int.toNat_natCast, false_and, and_false, true_and, and_true, if_true, if_false, reduceIte, reduceCtorEq, forall_const, false_or, or_false, true_or, or_true, ne_eq, not_true_eq_false, not_false_eq_true, implies_true, false_implies, Nat.reduceAdd, Nat.reduceSub, Nat.reduceMul, Nat.reduceEqDiff, Nat.reduceLT, Nat.reduceLeDiff, Int.reduceAdd, Int.reduceSub, Int.reduceMul, Int.reduceNeg, Int.reduceToNat, Int.reduceLE, Int.reduceLT, Int.reduceEq, Int.reduceNe, and_self]
     grind)
  · exact h.elim
def C_X0_satisfyingValues : pvC
  | [.inr (.inr (.inl id)), .inl t, .inl i], z, Q => (id = 1 ∨ id = 3) ∧ (0 ≤ t ∧ t ≤ 9 ∧ 0 ≤ i ∧ i ≤ 3 ∧ 0 ≤ cT (z.1 (id + 1)) t.toNat (5 + 3 * i).toNat ∧ cT (z.1 (id + 1)) t.toNat (5 + 3 * i).toNat ≤ 6 ∧ 0 ≤ cT (z.1 (id + 1)) t.toNat (6 + 3 * i).toNat ∧ cT (z.1 (id + 1)) t.toNat (6 + 3 * i).toNat ≤ 3) ∧
      Q (.inl (some (vI (smF (cT (z.1 (id + 1)) t.toNat (5 + 3 * i).toNat) (cT (z.1 (id + 1)) t.toNat (6 + 3 * i).toNat))))) z
  | _, _, _ => False
def bX0_satisfyingValues : Nat → List (Instr × Nat)
  | 0 => [(.aload_n 0, 1), (.iload_n 1, 1), (.iload_n 2, 1), (.iconst 1, 1), (.invokevirtual 56, 3), (.aload_n 0, 1), (.iload_n 1, 1), (.iload_n 2, 1), (.iconst 2, 1), (.invokevirtual 56, 3), (.invokestatic 59, 3), (.ireturn, 1)]
  | _ => []
def uX0_satisfyingValues : Nat → Option (List Bool)
  | _ => none
def aX0_satisfyingValues : pvCa
  | 56 => some (4, false, 0, 0, C_X0_constraintCell)
  | 59 => some (2, true, 0, 0, C_X7_satisfying)
  | _ => none
theorem bX0_satisfyingValues_0 : bX0_satisfyingValues 0 = [(.aload_n 0, 1), (.iload_n 1, 1), (.iload_n 2, 1), (.iconst 1, 1), (.invokevirtual 56, 3), (.aload_n 0, 1), (.iload_n 1, 1), (.iload_n 2, 1), (.iconst 2, 1), (.invokevirtual 56, 3), (.invokestatic 59, 3), (.ireturn, 1)] := rfl
theorem uX0_satisfyingValues_0 : uX0_satisfyingValues 0 = none := rfl
theorem aX0_satisfyingValues_56 : aX0_satisfyingValues 56 = some (4, false, 0, 0, C_X0_constraintCell) := rfl
theorem aX0_satisfyingValues_59 : aX0_satisfyingValues 59 = some (2, true, 0, 0, C_X7_satisfying) := rfl
set_option maxRecDepth 100000 in
set_option maxHeartbeats 4000000 in
theorem okX0_satisfyingValues : pvOkM fX0 aX0_satisfyingValues kX0 eX0 (some .int) bX0_satisfyingValues uX0_satisfyingValues 3 C_X0_satisfyingValues := by
  intro Q SW hc as z h hS hz
  unfold C_X0_satisfyingValues at h
  split at h
  · rename_i id t i
    obtain ⟨hid, h1, h2⟩ := h
    rw [show (5 + 3 * i).toNat = (4 + 3 * i + 1).toNat by omega, show (6 + 3 * i).toNat = (4 + 3 * i + 2).toNat by omega] at h1 h2
    refine ⟨Nat.le_of_ble_eq_true rfl, hc 20 _ _ _ fun _ _ => ?_⟩
    clear hc hS
    rcases hid with rfl | rfl <;> simp only [Nat.reduceAdd] at h1 h2 <;>
    (simp only [pvSt1]
     simp only [C_X0_constraintCell, C_X7_satisfying, pvE_aload_n0, pvLA_s, pvLd, pvE_iload_n1, pvLI_s, pvE_iload_n2, pvE_iconst, pvE_invokevirtual, pvC1_s, pvC2_s, pvAf_v, pvAf_x, pvPop, pvCs, pvCat, pvPush, aX0_satisfyingValues_56, pvSh_0, pvSh_1, pvSh_2, pvSh_3, pvSh_4, pvSh_5, pvSh_6, pvSh_7, pvSh_8, pvSh_9, pvSh_10, pvSh_11, pvSh_12, pvSh_13, pvSh_14, pvSh_15, pvSh_16, pvSh_17, pvSh_18, pvSh_19, pvSh_20, pvSh_21, pvSh_22, pvSh_23, pvSh_24, pvSh_25, pvSh_26, pvSh_27, pvSh_28, pvSh_29, pvSh_30, pvSh_31, pvSh_32, pvSh_33, pvSh_34, pvSh_35, pvSh_36, pvSh_37, pvSh_38, pvE_invokestatic (h0 := eX0_59), aX0_satisfyingValues_59, pvE_ireturn, bX0_satisfyingValues_0, uX0_satisfyingValues_0, pvRtG, pvRecv_r, pvUp_nl, pvUp_same, pvUp_ap, pvSt_ap, pvX_c, pvX_ms, pvX_mn, pvE_nil, pvEn_i, pvEn_r, pvEn_l, pvEn_0, pvEn_s, pvRt, pvRv, pvTh, pvKc, pvGo, pvTgt, Int.toNat_natCast, false_and, and_false, true_and, and_true, if_true, if_false, reduceIte, reduceCtorEq, forall_const, false_or, or_false, true_or, or_true, ne_eq, not_true_eq_false, not_false_eq_true, implies_true, false_implies, Nat.reduceAdd, Nat.reduceSub, Nat.reduceMul, Nat.reduceEqDiff, Nat.reduceLT, Nat.reduceLeDiff, Int.reduceAdd, Int.reduceSub, Int.reduceMul, Int.reduceNeg, Int.reduceToNat, Int.reduceLE, Int.reduceLT, Int.reduceEq, Int.reduceNe, and_self]
     (repeat' (first | with_reducible apply And.intro | intro _))
     all_goals first
       | omega
       | assumption)
  · exact h.elim
def C_X0_canRead : pvC
  | [.inr (.inr (.inl id)), .inl t, .inl a, .inl v], z, Q => (id = 1 ∨ id = 3) ∧ (WfC (z.1 (id + 1)) ∧ 0 ≤ t ∧ t < z.1 (id + 1) 0 ∧ 0 ≤ v ∧ v < 216) ∧
      ((cT (z.1 (id + 1)) t.toNat 1 = a ∧ blF (cT (z.1 (id + 1)) t.toNat) v < 0) → Q (.inl (some (vI 1))) z) ∧ (¬ (cT (z.1 (id + 1)) t.toNat 1 = a ∧ blF (cT (z.1 (id + 1)) t.toNat) v < 0) → Q (.inl (some (vI 0))) z)
  | _, _, _ => False
def bX0_canRead : Nat → List (Instr × Nat)
  | 0 => [(.aload_n 0, 1), (.iload_n 1, 1), (.invokevirtual 69, 3), (.iload_n 2, 1), (.if_icmp .ne 19, 3), (.aload_n 0, 1), (.iload_n 1, 1), (.invokevirtual 72, 3), (.iload_n 3, 1), (.invokestatic 75, 3), (.ifCond .eq 7, 3), (.iconst 1, 1), (.goto 4, 3)]
  | 25 => [(.iconst 0, 1)]
  | 26 => [(.ireturn, 1)]
  | _ => []
def uX0_canRead : Nat → Option (List Bool)
  | _ => none
def aX0_canRead : pvCa
  | 69 => some (2, false, 0, 0, C_X0_letter)
  | 72 => some (2, false, 0, 0, C_X0_allowed)
  | 75 => some (2, true, 0, 0, C_X7_isAllowed)
  | _ => none
theorem bX0_canRead_0 : bX0_canRead 0 = [(.aload_n 0, 1), (.iload_n 1, 1), (.invokevirtual 69, 3), (.iload_n 2, 1), (.if_icmp .ne 19, 3), (.aload_n 0, 1), (.iload_n 1, 1), (.invokevirtual 72, 3), (.iload_n 3, 1), (.invokestatic 75, 3), (.ifCond .eq 7, 3), (.iconst 1, 1), (.goto 4, 3)] := rfl
theorem uX0_canRead_0 : uX0_canRead 0 = none := rfl
theorem bX0_canRead_25 : bX0_canRead 25 = [(.iconst 0, 1)] := rfl
theorem uX0_canRead_25 : uX0_canRead 25 = none := rfl
theorem bX0_canRead_26 : bX0_canRead 26 = [(.ireturn, 1)] := rfl
theorem uX0_canRead_26 : uX0_canRead 26 = none := rfl
theorem aX0_canRead_69 : aX0_canRead 69 = some (2, false, 0, 0, C_X0_letter) := rfl
theorem aX0_canRead_72 : aX0_canRead 72 = some (2, false, 0, 0, C_X0_allowed) := rfl
theorem aX0_canRead_75 : aX0_canRead 75 = some (2, true, 0, 0, C_X7_isAllowed) := rfl
set_option maxRecDepth 100000 in
set_option maxHeartbeats 4000000 in
theorem okX0_canRead : pvOkM fX0 aX0_canRead kX0 eX0 (some .boolean) bX0_canRead uX0_canRead 4 C_X0_canRead := by
  intro Q SW hc as z h hS hz
  unfold C_X0_canRead at h
  split at h
  · rename_i id t a v
    obtain ⟨hid, ⟨hw, ht⟩, h2, h3⟩ := h
    have hn : 0 ≤ z.1 (id + 1) 0 ∧ z.1 (id + 1) 0 ≤ 10 := hw.1.1
    obtain ⟨ha, hb⟩ := hw.2 t.toNat (by omega)
    have hb' := hb v.toNat (by omega)
    rw [show ((v.toNat : Nat) : Int) = v by omega] at hb'
    refine ⟨Nat.le_of_ble_eq_true rfl, hc 20 _ _ _ fun _ _ => ?_⟩
    clear hc hS hw hb
    rcases hid with rfl | rfl <;> simp only [Nat.reduceAdd] at h2 h3 ha hb' hn ht <;>
    (simp only [pvSt1]
     simp only [C_X0_letter, C_X0_allowed, C_X7_isAllowed, pvE_aload_n0, pvLA_s, pvLd, pvE_iload_n1, pvLI_s, pvE_invokevirtual, pvC1_s, pvC2_s, pvAf_v, pvAf_x, pvPop, pvCs, pvCat, pvPush, aX0_canRead_69, pvSh_0, pvSh_1, pvSh_2, pvSh_3, pvSh_4, pvSh_5, pvSh_6, pvSh_7, pvSh_8, pvSh_9, pvSh_10, pvSh_11, pvSh_12, pvSh_13, pvSh_14, pvSh_15, pvSh_16, pvSh_17, pvSh_18, pvSh_19, pvSh_20, pvSh_21, pvSh_22, pvSh_23, pvSh_24, pvSh_25, pvSh_26, pvSh_27, pvSh_28, pvSh_29, pvSh_30, pvSh_31, pvSh_32, pvSh_33, pvSh_34, pvSh_35, pvSh_36, pvSh_37, pvSh_38, pvE_iload_n2, pvE_icmp_ne, aX0_canRead_72, pvE_iload_n3, pvE_invokestatic (h0 := eX0_75), aX0_canRead_75, pvE_if_eq, pvE_iconst, pvE_goto, pvE_ireturn, bX0_canRead_0, uX0_canRead_0, bX0_canRead_25, uX0_canRead_25, bX0_canRead_26, uX0_canRead_26, pvRtG, pvRecv_r, pvUp_nl, pvUp_same, pvUp_ap, pvSt_ap, pvX_c, pvX_ms, pvX_mn, pvE_nil, pvEn_i, pvEn_r, pvEn_l, pvEn_0, pvEn_s, pvRt, pvRv, pvTh, pvKc, pvGo, pvTgt, Int.toNat_natCast, false_and, and_false, true_and, and_true, if_true, if_false, reduceIte, reduceCtorEq, forall_const, false_or, or_false, true_or, or_true, ne_eq, not_true_eq_false, not_false_eq_true, implies_true, false_implies, Nat.reduceAdd, Nat.reduceSub, Nat.reduceMul, Nat.reduceEqDiff, Nat.reduceLT, Nat.reduceLeDiff, Int.reduceAdd, Int.reduceSub, Int.reduceMul, Int.reduceNeg, Int.reduceToNat, Int.reduceLE, Int.reduceLT, Int.reduceEq, Int.reduceNe, and_self]
     grind)
  · exact h.elim

