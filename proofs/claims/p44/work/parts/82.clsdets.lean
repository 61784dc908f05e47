def pwF (s : Int) : Nat := if s = 0 then 5 else 9
def pzF (z : pvM) : Prop := ∀ s : Int, 0 ≤ s ∧ s ≤ 1 → WfC (z.1 (rwC s)) ∧ (z.1 (pwF s) 6 = 0 ∨ z.1 (pwF s) 6 = 1) ∧ (z.1 (pwF s) 6 = 1 → psP z (pwF s) (autC (z.1 (rwC s))))
/-- one powerset brought up to date -/
def pyF (z : pvM) (s : Int) (z' : pvM) : Prop := frF [pwF s, pwF s + 1, pwF s + 2, pwF s + 3] [] z z' ∧ pzF z' ∧ z'.1 (pwF s) 6 = 1
theorem psP_m {z z' : pvM} {id : Nat} {A : Aut} (h : psP z id A) (e0 : z'.1 id = z.1 id) (e1 : z'.1 (id + 1) = z.1 (id + 1)) (e2 : z'.1 (id + 2) = z.1 (id + 2)) (e3 : z'.1 (id + 3) = z.1 (id + 3)) : psP z' id A := by
  unfold psP csF at *
  rw [e0, e1, e2, e3]
  exact h
theorem pz_m {z z' : pvM} {ids jds : List Nat} (h : pzF z) (f : frF ids jds z z') (hi : ∀ x ∈ ids, x ≠ 2 ∧ x ≠ 4 ∧ ¬ (5 ≤ x ∧ x ≤ 12)) : pzF z' := by
  intro s hs
  obtain ⟨a, b, c⟩ := h s hs
  have e : ∀ k, (k = 2 ∨ k = 4 ∨ 5 ≤ k ∧ k ≤ 12) → z'.1 k = z.1 k := fun k hk => f.1 k (fun hm => by have := hi _ hm; omega)
  have hr : rwC s = 2 ∨ rwC s = 4 := by unfold rwC; split <;> simp
  have hp : pwF s = 5 ∨ pwF s = 9 := by unfold pwF; split <;> simp
  rw [e (rwC s) (by omega), e (pwF s) (by omega)]
  exact ⟨a, b, fun q => psP_m (c q) (e _ (by omega)) (e _ (by omega)) (e _ (by omega)) (e _ (by omega))⟩
theorem py_P {z z' : pvM} {s : Int} (h : pyF z s z') (hs : 0 ≤ s ∧ s ≤ 1) : psP z' (pwF s) (autC (z.1 (rwC s))) ∧ WfA (autC (z.1 (rwC s))) ∧ z'.1 (rwC s) = z.1 (rwC s) := by
  obtain ⟨f, p, e⟩ := h
  obtain ⟨a, b, c⟩ := p s hs
  have er : z'.1 (rwC s) = z.1 (rwC s) := f.1 _ (by unfold rwC pwF; split <;> simp)
  rw [er] at a c
  exact ⟨c e, a.1, er⟩
theorem py_S {z z' : pvM} {s : Int} (h : pyF z s z') (hs : 0 ≤ s ∧ s ≤ 1) : psS z' (pwF s) (autC (z.1 (rwC s))) := by
  obtain ⟨⟨a, b, c, d⟩, w, -⟩ := py_P h hs
  exact ⟨by unfold pwF; split <;> simp, d, b, c, w⟩
def C_X9_powerset : pvC
  | [.inr (.inr (.inl id)), .inl s], z, Q => id = 0 ∧ ((0 ≤ s ∧ s ≤ 1) ∧ pzF z) ∧ ∀ z' : pvM, pyF z s z' → Q (.inl (some (vR (pwF s)))) z'
  | _, _, _ => False
def bX9_powerset : Nat → List (Instr × Nat)
  | 0 => [(.iload_n 1, 1), (.ifCond .ne 10, 3), (.aload_n 0, 1), (.getfield 22, 3), (.goto 7, 3)]
  | 11 => [(.aload_n 0, 1), (.getfield 26, 3)]
  | 15 => [(.astore_n 2, 1), (.aload_n 2, 1), (.aload_n 0, 1), (.iload_n 1, 1), (.invokevirtual 104, 3), (.invokevirtual 297, 3), (.aload_n 2, 1), (.areturn, 1)]
  | _ => []
def uX9_powerset : Nat → Option (List Bool)
  | _ => none
def aX9_powerset : pvCa
  | 104 => some (2, false, 8, 0, C_X9_automaton)
  | 297 => some (2, false, 3, 0, C_X3_refresh)
  | _ => none
theorem bX9_powerset_0 : bX9_powerset 0 = [(.iload_n 1, 1), (.ifCond .ne 10, 3), (.aload_n 0, 1), (.getfield 22, 3), (.goto 7, 3)] := rfl
theorem uX9_powerset_0 : uX9_powerset 0 = none := rfl
theorem bX9_powerset_11 : bX9_powerset 11 = [(.aload_n 0, 1), (.getfield 26, 3)] := rfl
theorem uX9_powerset_11 : uX9_powerset 11 = none := rfl
theorem bX9_powerset_15 : bX9_powerset 15 = [(.astore_n 2, 1), (.aload_n 2, 1), (.aload_n 0, 1), (.iload_n 1, 1), (.invokevirtual 104, 3), (.invokevirtual 297, 3), (.aload_n 2, 1), (.areturn, 1)] := rfl
theorem uX9_powerset_15 : uX9_powerset 15 = none := rfl
theorem aX9_powerset_104 : aX9_powerset 104 = some (2, false, 8, 0, C_X9_automaton) := rfl
theorem aX9_powerset_297 : aX9_powerset 297 = some (2, false, 3, 0, C_X3_refresh) := rfl
set_option maxRecDepth 100000 in
set_option maxHeartbeats 4000000 in
theorem okX9_powerset : pvOkM fX9 aX9_powerset kX9 eX9 (some (.object "EventClockWorkbench$Powerset")) bX9_powerset uX9_powerset 3 C_X9_powerset := by
  intro Q SW hc as z h hS hz
  unfold C_X9_powerset at h
  split at h
  · rename_i id s
    obtain ⟨rfl, ⟨hs, hp⟩, h2⟩ := h
    refine ⟨Nat.le_of_ble_eq_true rfl, hc 20 _ _ _ fun _ _ => ?_⟩
    clear hc hS hz
    simp only [pvSt1]
    simp only [C_X9_automaton, C_X3_refresh, pvE_iload_n1, pvLI_s, pvLd, pvE_if_ne, pvE_aload_n0, pvLA_s, pvE_getfield, pvGf_0, pvGf_1, pvGf_2, fX9_22, pvSh_0, pvSh_1, pvSh_2, pvSh_3, pvSh_4, pvSh_5, pvSh_6, pvSh_7, pvSh_8, pvSh_9, pvSh_10, pvSh_11, pvSh_12, pvSh_13, pvSh_14, pvSh_15, pvSh_16, pvSh_17, pvSh_18, pvSh_19, pvSh_20, pvSh_21, pvSh_22, pvSh_23, pvSh_24, pvSh_25, pvSh_26, pvSh_27, pvSh_28, pvSh_29, pvSh_30, pvSh_31, pvSh_32, pvSh_33, pvSh_34, pvSh_35, pvSh_36, pvSh_37, pvSh_38, pvRf_0_0, pvRf_0_1, pvRf_0_2, pvRf_0_3, pvRf_0_4, pvRf_0_5, pvRf_0_6, pvRf_0_7, pvRf_0_8, pvRf_0_9, pvRf_0_10, pvRf_1_0, pvRf_3_0, pvRf_5_0, pvRf_5_1, pvRf_5_2, pvRf_9_0, pvRf_9_1, pvRf_9_2, pvRf_13_0, pvRf_13_1, pvRf_13_2, pvRf_17_0, pvRf_17_2, pvRf_20_0, pvRf_20_1, pvRf_20_2, pvRf_24_0, pvRf_24_1, pvRf_24_2, pvRf_28_0, pvRf_28_1, pvRf_28_2, pvRf_28_3, pvRf_33_0, pvRf_33_1, pvRf_36_0, pvRf_36_1, pvE_goto, fX9_26, pvE_astore_n2, pvS1, List.length_cons, List.length_nil, pvClr_i, pvClr_r, pvClr_l, pvClr_d, pvClr_f, pvClr_n, pvE_aload_n2, pvE_invokevirtual, pvC1_s, pvC2_s, pvAf_v, pvAf_x, pvPop, pvCs, pvCat, pvPush, aX9_powerset_104, aX9_powerset_297, pvE_areturn, bX9_powerset_0, uX9_powerset_0, bX9_powerset_11, uX9_powerset_11, bX9_powerset_15, uX9_powerset_15, pvRtG, pvRecv_r, pvUp_nl, pvUp_same, pvUp_ap, pvSt_ap, pvX_c, pvX_ms, pvX_mn, pvE_nil, pvEn_i, pvEn_r, pvEn_l, pvEn_0, pvEn_s, pvRt, pvRv, pvTh, pvKc, pvGo, pvTgt, Int.toNat_natCast, false_and, and_false, true_and, and_true, if_true, if_false, reduceIte, reduceCtorEq, forall_const, false_or, or_false, true_or, or_true, ne_eq, not_true_eq_false, not_false_eq_true, implies_true, false_implies, Nat.reduceAdd, Nat.reduceSub, Nat.reduceMul, Nat.reduceEqDiff, Nat.reduceLT, Nat.reduceLeDiff, Int.reduceAdd, Int.reduceSub, Int.reduceMul, Int.reduceNeg, Int.reduceToNat, Int.reduceLE, Int.reduceLT, Int.reduceEq, Int.reduceNe, and_self]
    have p0 := hp 0 (by decide)
    have p1 := hp 1 (by decide)
    have r0 : rwC 0 = 2 := rfl
    have r1 : rwC 1 = 4 := rfl
    have q0 : pwF 0 = 5 := rfl
    have q1 : pwF 1 = 9 := rfl
    rw [r0, q0] at p0
    rw [r1, q1] at p1
    obtain ⟨a0, b0, c0⟩ := p0
    obtain ⟨a1, b1, c1⟩ := p1
    have fin : ∀ z' : pvM, frF [pwF s, pwF s + 1, pwF s + 2, pwF s + 3] [] z z' → z'.1 (pwF s) 6 = 1 → psP z' (pwF s) (autC (z.1 (rwC s))) → Q (.inl (some (vR (pwF s)))) z' := by
      intro z' f e p
      refine h2 z' ⟨f, fun s' hs' => ?_, e⟩
      by_cases hss : s' = s
      · subst hss
        have er : z'.1 (rwC s') = z.1 (rwC s') := f.1 _ (by unfold rwC pwF; split <;> simp)
        rw [er]
        exact ⟨(hp s' hs').1, Or.inr e, fun _ => p⟩
      · obtain ⟨a, b, c⟩ := hp s' hs'
        have e9 : ∀ k, (k = rwC s' ∨ k = pwF s' ∨ k = pwF s' + 1 ∨ k = pwF s' + 2 ∨ k = pwF s' + 3) → z'.1 k = z.1 k := fun k hk => f.1 k (by
          have x1 : (s' = 0 ∧ s = 1) ∨ (s' = 1 ∧ s = 0) := by omega
          rcases x1 with ⟨rfl, rfl⟩ | ⟨rfl, rfl⟩
          · rw [r0, q0] at hk
            rw [q1]
            simp
            omega
          · rw [r1, q1] at hk
            rw [q0]
            simp
            omega)
        rw [e9 _ (by simp), e9 (pwF s') (by simp)]
        exact ⟨a, b, fun q => psP_m (c q) (e9 _ (by simp)) (e9 _ (by simp)) (e9 _ (by simp)) (e9 _ (by simp))⟩
    rcases (show s = 0 ∨ s = 1 by omega) with rfl | rfl
    · rw [q0, r0] at fin
      (repeat' first | with_reducible apply And.intro | with_reducible intro _)
      all_goals first
        | omega
        | assumption
        | (exact c0 (by assumption))
        | (apply fin <;> assumption)
    · rw [q1, r1] at fin
      (repeat' first | with_reducible apply And.intro | with_reducible intro _)
      all_goals first
        | omega
        | assumption
        | (exact c1 (by assumption))
        | (apply fin <;> assumption)
  · exact h.elim
def deC (z z' : pvM) : Prop := frF [5, 6, 7, 8, 9, 10, 11, 12] [] z z' ∧ pzF z'
theorem py_de {z z' : pvM} {s : Int} (h : pyF z s z') : deC z z' := by
  refine ⟨frF_t frF_0 h.1 (fun x hx => ?_) (fun x hx => hx), h.2.1⟩
  have hp : pwF s = 5 ∨ pwF s = 9 := by unfold pwF; split <;> simp
  simp at hx ⊢
  omega
theorem de_t {z z' z'' : pvM} (h : deC z z') (h' : deC z' z'') : deC z z'' := ⟨frF_t h.1 h'.1 (fun _ h => h) (fun _ h => h), h'.2⟩
theorem de_r {z z' : pvM} (h : deC z z') (s : Int) : z'.1 (rwC s) = z.1 (rwC s) := h.1.1 _ (by unfold rwC; split <;> simp)
theorem pw_sh (s : Int) : pvSh (pwF s) = Sum.inl 3 := by unfold pwF; split <;> rfl
def C_X9_requireDeterministicState : pvC
  | [.inr (.inr (.inl id)), .inl s, .inl i], z, Q => id = 0 ∧ pzF z ∧ (¬ (0 ≤ s ∧ s ≤ 1) → Q (.inr 0) z) ∧
      (0 ≤ s ∧ s ≤ 1 → ∀ z' : pvM, pyF z s z' → (0 ≤ i ∧ i < (dsF (autC (z.1 (rwC s)))).length → Q (.inl none) z') ∧ (¬ (0 ≤ i ∧ i < (dsF (autC (z.1 (rwC s)))).length) → Q (.inr 0) z'))
  | _, _, _ => False
def bX9_requireDeterministicState : Nat → List (Instr × Nat)
  | 0 => [(.iload_n 1, 1), (.iconst 2, 1), (.invokestatic 97, 3), (.iload_n 2, 1), (.aload_n 0, 1), (.iload_n 1, 1), (.invokevirtual 217, 3), (.getfield 221, 3), (.invokestatic 97, 3), (.return_, 1)]
  | _ => []
def uX9_requireDeterministicState : Nat → Option (List Bool)
  | _ => none
def aX9_requireDeterministicState : pvCa
  | 97 => some (2, true, 0, 0, C_X9_requireIndex)
  | 217 => some (2, false, 8, 0, C_X9_powerset)
  | _ => none
theorem bX9_requireDeterministicState_0 : bX9_requireDeterministicState 0 = [(.iload_n 1, 1), (.iconst 2, 1), (.invokestatic 97, 3), (.iload_n 2, 1), (.aload_n 0, 1), (.iload_n 1, 1), (.invokevirtual 217, 3), (.getfield 221, 3), (.invokestatic 97, 3), (.return_, 1)] := rfl
theorem uX9_requireDeterministicState_0 : uX9_requireDeterministicState 0 = none := rfl
theorem aX9_requireDeterministicState_97 : aX9_requireDeterministicState 97 = some (2, true, 0, 0, C_X9_requireIndex) := rfl
theorem aX9_requireDeterministicState_217 : aX9_requireDeterministicState 217 = some (2, false, 8, 0, C_X9_powerset) := rfl
set_option maxRecDepth 100000 in
set_option maxHeartbeats 4000000 in
theorem okX9_requireDeterministicState : pvOkM fX9 aX9_requireDeterministicState kX9 eX9 none bX9_requireDeterministicState uX9_requireDeterministicState 3 C_X9_requireDeterministicState := by
  intro Q SW hc as z h hS hz
  unfold C_X9_requireDeterministicState at h
  split at h
  · rename_i id s i
    obtain ⟨rfl, hp, h1, h2⟩ := h
    refine ⟨Nat.le_of_ble_eq_true rfl, hc 20 _ _ _ fun _ _ => ?_⟩
    clear hc hS hz
    simp only [pvSt1]
    have hsh := pw_sh s
    simp only [C_X9_powerset, C_X9_requireIndex, hsh, pvE_iload_n1, pvLI_s, pvLd, pvE_iconst, pvE_invokestatic (h0 := eX9_97), pvC1_s, pvC2_s, pvAf_v, pvAf_x, pvPop, pvCs, pvCat, pvPush, aX9_requireDeterministicState_97, pvE_iload_n2, pvE_aload_n0, pvLA_s, pvE_invokevirtual, aX9_requireDeterministicState_217, pvSh_0, pvSh_1, pvSh_2, pvSh_3, pvSh_4, pvSh_5, pvSh_6, pvSh_7, pvSh_8, pvSh_9, pvSh_10, pvSh_11, pvSh_12, pvSh_13, pvSh_14, pvSh_15, pvSh_16, pvSh_17, pvSh_18, pvSh_19, pvSh_20, pvSh_21, pvSh_22, pvSh_23, pvSh_24, pvSh_25, pvSh_26, pvSh_27, pvSh_28, pvSh_29, pvSh_30, pvSh_31, pvSh_32, pvSh_33, pvSh_34, pvSh_35, pvSh_36, pvSh_37, pvSh_38, pvE_getfield, pvGf_0, pvGf_1, pvGf_2, fX9_221, pvRf_0_0, pvRf_0_1, pvRf_0_2, pvRf_0_3, pvRf_0_4, pvRf_0_5, pvRf_0_6, pvRf_0_7, pvRf_0_8, pvRf_0_9, pvRf_0_10, pvRf_1_0, pvRf_3_0, pvRf_5_0, pvRf_5_1, pvRf_5_2, pvRf_9_0, pvRf_9_1, pvRf_9_2, pvRf_13_0, pvRf_13_1, pvRf_13_2, pvRf_17_0, pvRf_17_2, pvRf_20_0, pvRf_20_1, pvRf_20_2, pvRf_24_0, pvRf_24_1, pvRf_24_2, pvRf_28_0, pvRf_28_1, pvRf_28_2, pvRf_28_3, pvRf_33_0, pvRf_33_1, pvRf_36_0, pvRf_36_1, pvE_return, bX9_requireDeterministicState_0, uX9_requireDeterministicState_0, pvRtG, pvRecv_r, pvUp_nl, pvUp_same, pvUp_ap, pvSt_ap, pvX_c, pvX_ms, pvX_mn, pvE_nil, pvEn_i, pvEn_r, pvEn_l, pvEn_0, pvEn_s, pvRt, pvRv, pvTh, pvKc, pvGo, pvTgt, Int.toNat_natCast, false_and, and_false, true_and, and_true, if_true, if_false, reduceIte, reduceCtorEq, forall_const, false_or, or_false, true_or, or_true, ne_eq, not_true_eq_false, not_false_eq_true, implies_true, false_implies, Nat.reduceAdd, Nat.reduceSub, Nat.reduceMul, Nat.reduceEqDiff, Nat.reduceLT, Nat.reduceLeDiff, Int.reduceAdd, Int.reduceSub, Int.reduceMul, Int.reduceNeg, Int.reduceToNat, Int.reduceLE, Int.reduceLT, Int.reduceEq, Int.reduceNe, and_self]
    by_cases hs : 0 ≤ s ∧ s ≤ 1
    · have h3 := h2 hs
      have hlt : pwF s = 5 ∨ pwF s = 9 := by unfold pwF; split <;> simp
      (repeat' first | with_reducible apply And.intro | with_reducible intro _)
      all_goals first
        | omega
        | assumption
        | (rename pyF _ _ _ => y1
           have e3 := (py_P y1 hs).1.1.1
           first
             | exact (h3 _ y1).1 (by omega)
             | exact (h3 _ y1).2 (by omega))
    · have h4 := h1 hs
      (repeat' first | with_reducible apply And.intro | with_reducible intro _) <;> first | omega | assumption
  · exact h.elim

