/-! the law's wrappers over the machine -/
def bL_appendCharacter : Nat → List (Instr × Nat)
  | 0 => [(.aload_n 2, 1), (.iconst 0, 1), (.aload_n 0, 1), (.iload_n 1, 1)]
  | 4 => [(.invokevirtual 7, 3)]
  | 7 => [(.i2l, 1), (.lastore, 1), (.goto 9, 3)]
  | 18 => [(.iconst 0, 1), (.ireturn, 1)]
  | _ => []
theorem bL_appendCharacter_0 : bL_appendCharacter 0 = [(.aload_n 2, 1), (.iconst 0, 1), (.aload_n 0, 1), (.iload_n 1, 1)] := rfl
theorem bL_appendCharacter_4 : bL_appendCharacter 4 = [(.invokevirtual 7, 3)] := rfl
theorem bL_appendCharacter_7 : bL_appendCharacter 7 = [(.i2l, 1), (.lastore, 1), (.goto 9, 3)] := rfl
theorem bL_appendCharacter_18 : bL_appendCharacter 18 = [(.iconst 0, 1), (.ireturn, 1)] := rfl
def aL_appendCharacter : pvCa
  | 7 => some (2, false, 8, 0, C_X9_appendCharacter)
  | _ => none
def mL_appendCharacter : Room := { frames := 8, cells := 1, slots := 6, locals := 122 }
theorem pnL_appendCharacter : pvPn yL_appendCharacter = some 3 := by decide +kernel
theorem caL_appendCharacter {l : Launch} (hf : l.stackTraces = false) : pvCaOk l mL_appendCharacter "EventClockWorkbenchLaw" pvTb 60 aL_appendCharacter := by
  refine pvCaOk_i fun ix n b ci co C h => ?_
  unfold aL_appendCharacter at h
  split at h
  · cases h; exact pvCe_V (k := 1) (T := TX9) (N := 11) (metX9_appendCharacter hf) rfl wd_1_1 rfl wd_2_33 wd_2_34 wd_2_35 pnX9_appendCharacter rfl wd_2_36
  · cases h
set_option maxRecDepth 100000 in
theorem chL_appendCharacter : ∀ pc, pvChain cL_appendCharacter pc (bL_appendCharacter pc) := by
  intro pc
  unfold bL_appendCharacter
  split <;> first | exact True.intro | exact pvChain_of (by decide +kernel)
theorem shL_appendCharacter {as : List pvV} {z : pvM} {Q : pvO → pvM → Prop} (h : C_X9_appendCharacter as z Q) : ∃ v1 : Int, as = [vR 0, vI v1] := by
  unfold C_X9_appendCharacter at h
  split at h
  · obtain ⟨rfl, -⟩ := h
    exact ⟨_, rfl⟩
  · exact h.elim
set_option maxRecDepth 100000 in
set_option maxHeartbeats 4000000 in
theorem owL_appendCharacter : ∀ as z Q, C_L_appendCharacter as z Q → pvOkS as → pvCs as ≤ 4 ∧ ∃ (a9 rest st9 : List pvV) (Q0 : pvO → pvM → Prop), pvPop 2 st9 [] = some (a9, rest) ∧ pvCs rest ≤ 8 ∧ pvRecv 60 8 a9 ∧ C_X9_appendCharacter a9 z Q0 ∧
      pvB 60 (0, fun _ => 0) fL aL_appendCharacter kL pvEx0 1 (fun pc ls' st z' g => pc = 4 ∧ ls' = pvEn as 4 ∧ st = st9 ∧ z' = z ∧ g = 0) (fun _ _ _ => False) (fun _ _ _ _ => False) (bL_appendCharacter 0) 0 (pvEn as 4) [] z 0 ∧
      (∀ v z', Q0 (.inl v) z' → (∀ x, v = some x → pvOk x) → pvB 60 (0, fun _ => 0) fL aL_appendCharacter kL pvEx0 1 (pvX 60 (0, fun _ => 0) fL aL_appendCharacter kL pvEx0 1 (pvRt (some .int) Q) (fun _ _ _ _ => False) bL_appendCharacter (fun _ => none) (fun _ _ _ _ => False) 9) (pvRt (some .int) Q) (fun _ _ _ _ => False) (bL_appendCharacter (4 + 3)) (4 + 3) (pvEn as 4) (pvPush v rest) z' 0) ∧
      (∀ k z', Q0 (.inr k) z' → k ∈ [1, 2] ∧ Q (.inl (some (vI (hfF [1, 2] k)))) z') := by
  intro as z Q h hS
  unfold C_L_appendCharacter at h
  split at h
  · obtain ⟨rfl, h⟩ := h
    have e := shL_appendCharacter h
    obtain ⟨v1, e⟩ := e
    cases e
    refine ⟨Nat.le_of_ble_eq_true rfl, [vR 0, vI v1], [vI 0, vR 58], [vI v1, vR 0, vI 0, vR 58], wrI [1, 2] Q, rfl, Nat.le_of_ble_eq_true rfl, ⟨rfl, by decide⟩, h, ?_, fun v z' hq hok => ?_, fun k z' hq => hq⟩
    · simp only [bL_appendCharacter_0, bL_appendCharacter_4, bL_appendCharacter_7, bL_appendCharacter_18, pvE_aload_n2, pvLA_s, pvLd, pvE_iconst, pvE_aload_n0, pvE_iload_n1, pvLI_s, pvE_invokevirtual, pvC1_s, pvC2_s, pvAf_v, pvAf_x, pvPop, pvCs, pvCat, pvPush, pvSh_0, pvSh_58, pvSh_59, pvE_i2l, pvE_lastore, pvAL, pvE_goto, pvE_astore_n3, pvS1, List.length_cons, List.length_nil, pvClr_i, pvClr_r, pvClr_l, pvClr_d, pvClr_f, pvClr_n, pvE_ireturn, pvRecv_r, pvUp_nl, pvUp_same, pvUp_ap, pvSt_ap, pvX_c, pvX_ms, pvX_mn, pvE_nil, pvEn_i, pvEn_r, pvEn_l, pvEn_0, pvEn_s, pvRt, pvRv, pvTh, pvKc, pvGo, pvTgt, Int.toNat_natCast, false_and, and_false, true_and, and_true, if_true, if_false, reduceIte, reduceCtorEq, forall_const, false_or, or_false, true_or, or_true, ne_eq, not_true_eq_false, not_false_eq_true, implies_true, false_implies, Nat.reduceAdd, Nat.reduceSub, Nat.reduceMul, Nat.reduceEqDiff, Nat.reduceLT, Nat.reduceLeDiff, Int.reduceAdd, Int.reduceSub, Int.reduceMul, Int.reduceNeg, Int.reduceToNat, Int.reduceLE, Int.reduceLT, Int.reduceEq, Int.reduceNe, and_self, pvPush]
      (repeat' first | with_reducible apply And.intro | with_reducible intro _)
      all_goals first
        | omega
        | rfl
        | trivial
    rcases v with _ | (a | a | a | a | a)
    · exact hq.elim
    · simp only [wrI] at hq
      simp only [bL_appendCharacter_0, bL_appendCharacter_4, bL_appendCharacter_7, bL_appendCharacter_18, pvE_aload_n2, pvLA_s, pvLd, pvE_iconst, pvE_aload_n0, pvE_iload_n1, pvLI_s, pvE_invokevirtual, pvC1_s, pvC2_s, pvAf_v, pvAf_x, pvPop, pvCs, pvCat, pvPush, pvSh_0, pvSh_58, pvSh_59, pvE_i2l, pvE_lastore, pvAL, pvE_goto, pvE_astore_n3, pvS1, List.length_cons, List.length_nil, pvClr_i, pvClr_r, pvClr_l, pvClr_d, pvClr_f, pvClr_n, pvE_ireturn, pvRecv_r, pvUp_nl, pvUp_same, pvUp_ap, pvSt_ap, pvX_c, pvX_ms, pvX_mn, pvE_nil, pvEn_i, pvEn_r, pvEn_l, pvEn_0, pvEn_s, pvRt, pvRv, pvTh, pvKc, pvGo, pvTgt, Int.toNat_natCast, false_and, and_false, true_and, and_true, if_true, if_false, reduceIte, reduceCtorEq, forall_const, false_or, or_false, true_or, or_true, ne_eq, not_true_eq_false, not_false_eq_true, implies_true, false_implies, Nat.reduceAdd, Nat.reduceSub, Nat.reduceMul, Nat.reduceEqDiff, Nat.reduceLT, Nat.reduceLeDiff, Int.reduceAdd, Int.reduceSub, Int.reduceMul, Int.reduceNeg, Int.reduceToNat, Int.reduceLE, Int.reduceLT, Int.reduceEq, Int.reduceNe, and_self, pvPush]
      (repeat' first | with_reducible apply And.intro | with_reducible intro _)
      all_goals first
        | omega
        | exact Or.inl rfl
        | exact hq (hok _ rfl)
    · exact hq.elim
    · exact hq.elim
    · exact hq.elim
    · exact hq.elim
  · exact h.elim
theorem hdL_appendCharacter : ∀ i (x : Nat × Nat × Nat × Nat) (k : Nat), ([(0, 9, 12, 13), (0, 9, 15, 15)] : List (Nat × Nat × Nat × Nat))[i]? = some x → ([1, 2] : List Nat)[i]? = some k → (x.1 ≤ 4 ∧ 4 < x.2.1 ∧ x.2.2.2 ≠ 0 ∧ pvHd cL_appendCharacter 4 x.2.2.1 i) ∧ Cond.classLink "EventClockWorkbenchLaw" x.2.2.2 (pvXn k) ∈ pvTb := by
  intro i x k h1 h2
  match i, h1, h2 with
  | 0, h1, h2 => cases h1; cases h2; exact ⟨⟨by decide, by decide, by decide, ⟨3, by decide, Or.inl ⟨3, rfl, by decide +kernel, by decide +kernel, by decide +kernel⟩⟩⟩, wd_2_31⟩
  | 1, h1, h2 => cases h1; cases h2; exact ⟨⟨by decide, by decide, by decide, ⟨3, by decide, Or.inl ⟨3, rfl, by decide +kernel, by decide +kernel, by decide +kernel⟩⟩⟩, wd_2_32⟩
  | n + 2, h1, h2 => simp at h1
theorem metWL_appendCharacter {l : Launch} (hf : l.stackTraces = false) : pvMetW l yL_appendCharacter (Cond.codeWith yL_appendCharacter cL_appendCharacter 4 (some .int) [(0, 9, 12, 13), (0, 9, 15, 15)] :: pvTb) mL_appendCharacter C_L_appendCharacter :=
  pvMetW_of (y := yL_appendCharacter) 7 2 4 [1, 2] plL coL foL (caL_appendCharacter hf) rfl ⟨rfl, rfl⟩ chL_appendCharacter (by decide +kernel) rfl (by decide) (by decide) (by decide) hdL_appendCharacter owL_appendCharacter
def bL_addTransition : Nat → List (Instr × Nat)
  | 0 => [(.aload 5, 2), (.iconst 0, 1), (.aload_n 0, 1), (.iload_n 1, 1), (.iload_n 2, 1), (.iload_n 3, 1), (.iload 4, 2)]
  | 9 => [(.invokevirtual 17, 3)]
  | 12 => [(.i2l, 1), (.lastore, 1), (.goto 15, 3)]
  | 29 => [(.iconst 0, 1), (.ireturn, 1)]
  | _ => []
theorem bL_addTransition_0 : bL_addTransition 0 = [(.aload 5, 2), (.iconst 0, 1), (.aload_n 0, 1), (.iload_n 1, 1), (.iload_n 2, 1), (.iload_n 3, 1), (.iload 4, 2)] := rfl
theorem bL_addTransition_9 : bL_addTransition 9 = [(.invokevirtual 17, 3)] := rfl
theorem bL_addTransition_12 : bL_addTransition 12 = [(.i2l, 1), (.lastore, 1), (.goto 15, 3)] := rfl
theorem bL_addTransition_29 : bL_addTransition 29 = [(.iconst 0, 1), (.ireturn, 1)] := rfl
def aL_addTransition : pvCa
  | 17 => some (5, false, 8, 0, C_X9_addTransition)
  | _ => none
def mL_addTransition : Room := { frames := 8, cells := 1, slots := 6, locals := 142 }
theorem pnL_addTransition : pvPn yL_addTransition = some 6 := by decide +kernel
theorem caL_addTransition {l : Launch} (hf : l.stackTraces = false) : pvCaOk l mL_addTransition "EventClockWorkbenchLaw" pvTb 60 aL_addTransition := by
  refine pvCaOk_i fun ix n b ci co C h => ?_
  unfold aL_addTransition at h
  split at h
  · cases h; exact pvCe_V (k := 4) (T := TX9) (N := 11) (metX9_addTransition hf) rfl wd_1_1 rfl wd_2_138 wd_2_139 wd_2_140 pnX9_addTransition rfl wd_2_141
  · cases h
set_option maxRecDepth 100000 in
theorem chL_addTransition : ∀ pc, pvChain cL_addTransition pc (bL_addTransition pc) := by
  intro pc
  unfold bL_addTransition
  split <;> first | exact True.intro | exact pvChain_of (by decide +kernel)
theorem shL_addTransition {as : List pvV} {z : pvM} {Q : pvO → pvM → Prop} (h : C_X9_addTransition as z Q) : ∃ v1 v2 v3 v4 : Int, as = [vR 0, vI v1, vI v2, vI v3, vI v4] := by
  unfold C_X9_addTransition at h
  split at h
  · obtain ⟨rfl, -⟩ := h
    exact ⟨_, _, _, _, rfl⟩
  · exact h.elim
set_option maxRecDepth 100000 in
set_option maxHeartbeats 4000000 in
theorem owL_addTransition : ∀ as z Q, C_L_addTransition as z Q → pvOkS as → pvCs as ≤ 7 ∧ ∃ (a9 rest st9 : List pvV) (Q0 : pvO → pvM → Prop), pvPop 5 st9 [] = some (a9, rest) ∧ pvCs rest ≤ 8 ∧ pvRecv 60 8 a9 ∧ C_X9_addTransition a9 z Q0 ∧
      pvB 60 (0, fun _ => 0) fL aL_addTransition kL pvEx0 1 (fun pc ls' st z' g => pc = 9 ∧ ls' = pvEn as 7 ∧ st = st9 ∧ z' = z ∧ g = 0) (fun _ _ _ => False) (fun _ _ _ _ => False) (bL_addTransition 0) 0 (pvEn as 7) [] z 0 ∧
      (∀ v z', Q0 (.inl v) z' → (∀ x, v = some x → pvOk x) → pvB 60 (0, fun _ => 0) fL aL_addTransition kL pvEx0 1 (pvX 60 (0, fun _ => 0) fL aL_addTransition kL pvEx0 1 (pvRt (some .int) Q) (fun _ _ _ _ => False) bL_addTransition (fun _ => none) (fun _ _ _ _ => False) 9) (pvRt (some .int) Q) (fun _ _ _ _ => False) (bL_addTransition (9 + 3)) (9 + 3) (pvEn as 7) (pvPush v rest) z' 0) ∧
      (∀ k z', Q0 (.inr k) z' → k ∈ [0, 1, 2] ∧ Q (.inl (some (vI (hfF [0, 1, 2] k)))) z') := by
  intro as z Q h hS
  unfold C_L_addTransition at h
  split at h
  · obtain ⟨rfl, h⟩ := h
    have e := shL_addTransition h
    obtain ⟨v1, v2, v3, v4, e⟩ := e
    cases e
    refine ⟨Nat.le_of_ble_eq_true rfl, [vR 0, vI v1, vI v2, vI v3, vI v4], [vI 0, vR 58], [vI v4, vI v3, vI v2, vI v1, vR 0, vI 0, vR 58], wrI [0, 1, 2] Q, rfl, Nat.le_of_ble_eq_true rfl, ⟨rfl, by decide⟩, h, ?_, fun v z' hq hok => ?_, fun k z' hq => hq⟩
    · simp only [bL_addTransition_0, bL_addTransition_9, bL_addTransition_12, bL_addTransition_29, pvE_aload, pvLA_s, pvLd, pvE_iconst, pvE_aload_n0, pvE_iload_n1, pvLI_s, pvE_iload_n2, pvE_iload_n3, pvE_iload, pvE_invokevirtual, pvC1_s, pvC2_s, pvAf_v, pvAf_x, pvPop, pvCs, pvCat, pvPush, pvSh_0, pvSh_58, pvSh_59, pvE_i2l, pvE_lastore, pvAL, pvE_goto, pvE_astore, pvS1, List.length_cons, List.length_nil, pvClr_i, pvClr_r, pvClr_l, pvClr_d, pvClr_f, pvClr_n, pvE_ireturn, pvRecv_r, pvUp_nl, pvUp_same, pvUp_ap, pvSt_ap, pvX_c, pvX_ms, pvX_mn, pvE_nil, pvEn_i, pvEn_r, pvEn_l, pvEn_0, pvEn_s, pvRt, pvRv, pvTh, pvKc, pvGo, pvTgt, Int.toNat_natCast, false_and, and_false, true_and, and_true, if_true, if_false, reduceIte, reduceCtorEq, forall_const, false_or, or_false, true_or, or_true, ne_eq, not_true_eq_false, not_false_eq_true, implies_true, false_implies, Nat.reduceAdd, Nat.reduceSub, Nat.reduceMul, Nat.reduceEqDiff, Nat.reduceLT, Nat.reduceLeDiff, Int.reduceAdd, Int.reduceSub, Int.reduceMul, Int.reduceNeg, Int.reduceToNat, Int.reduceLE, Int.reduceLT, Int.reduceEq, Int.reduceNe, and_self, pvPush]
      (repeat' first | with_reducible apply And.intro | with_reducible intro _)
      all_goals first
        | omega
        | rfl
        | trivial
    rcases v with _ | (a | a | a | a | a)
    · exact hq.elim
    · simp only [wrI] at hq
      simp only [bL_addTransition_0, bL_addTransition_9, bL_addTransition_12, bL_addTransition_29, pvE_aload, pvLA_s, pvLd, pvE_iconst, pvE_aload_n0, pvE_iload_n1, pvLI_s, pvE_iload_n2, pvE_iload_n3, pvE_iload, pvE_invokevirtual, pvC1_s, pvC2_s, pvAf_v, pvAf_x, pvPop, pvCs, pvCat, pvPush, pvSh_0, pvSh_58, pvSh_59, pvE_i2l, pvE_lastore, pvAL, pvE_goto, pvE_astore, pvS1, List.length_cons, List.length_nil, pvClr_i, pvClr_r, pvClr_l, pvClr_d, pvClr_f, pvClr_n, pvE_ireturn, pvRecv_r, pvUp_nl, pvUp_same, pvUp_ap, pvSt_ap, pvX_c, pvX_ms, pvX_mn, pvE_nil, pvEn_i, pvEn_r, pvEn_l, pvEn_0, pvEn_s, pvRt, pvRv, pvTh, pvKc, pvGo, pvTgt, Int.toNat_natCast, false_and, and_false, true_and, and_true, if_true, if_false, reduceIte, reduceCtorEq, forall_const, false_or, or_false, true_or, or_true, ne_eq, not_true_eq_false, not_false_eq_true, implies_true, false_implies, Nat.reduceAdd, Nat.reduceSub, Nat.reduceMul, Nat.reduceEqDiff, Nat.reduceLT, Nat.reduceLeDiff, Int.reduceAdd, Int.reduceSub, Int.reduceMul, Int.reduceNeg, Int.reduceToNat, Int.reduceLE, Int.reduceLT, Int.reduceEq, Int.reduceNe, and_self, pvPush]
      (repeat' first | with_reducible apply And.intro | with_reducible intro _)
      all_goals first
        | omega
        | exact Or.inl rfl
        | exact hq (hok _ rfl)
    · exact hq.elim
    · exact hq.elim
    · exact hq.elim
    · exact hq.elim
  · exact h.elim
theorem hdL_addTransition : ∀ i (x : Nat × Nat × Nat × Nat) (k : Nat), ([(0, 14, 17, 21), (0, 14, 21, 13), (0, 14, 25, 15)] : List (Nat × Nat × Nat × Nat))[i]? = some x → ([0, 1, 2] : List Nat)[i]? = some k → (x.1 ≤ 9 ∧ 9 < x.2.1 ∧ x.2.2.2 ≠ 0 ∧ pvHd cL_addTransition 7 x.2.2.1 i) ∧ Cond.classLink "EventClockWorkbenchLaw" x.2.2.2 (pvXn k) ∈ pvTb := by
  intro i x k h1 h2
  match i, h1, h2 with
  | 0, h1, h2 => cases h1; cases h2; exact ⟨⟨by decide, by decide, by decide, ⟨6, by decide, Or.inr ⟨by decide +kernel, by decide +kernel, by decide +kernel⟩⟩⟩, wd_2_137⟩
  | 1, h1, h2 => cases h1; cases h2; exact ⟨⟨by decide, by decide, by decide, ⟨6, by decide, Or.inr ⟨by decide +kernel, by decide +kernel, by decide +kernel⟩⟩⟩, wd_2_31⟩
  | 2, h1, h2 => cases h1; cases h2; exact ⟨⟨by decide, by decide, by decide, ⟨6, by decide, Or.inr ⟨by decide +kernel, by decide +kernel, by decide +kernel⟩⟩⟩, wd_2_32⟩
  | n + 3, h1, h2 => simp at h1
theorem metWL_addTransition {l : Launch} (hf : l.stackTraces = false) : pvMetW l yL_addTransition (Cond.codeWith yL_addTransition cL_addTransition 7 (some .int) [(0, 14, 17, 21), (0, 14, 21, 13), (0, 14, 25, 15)] :: pvTb) mL_addTransition C_L_addTransition :=
  pvMetW_of (y := yL_addTransition) 17 5 9 [0, 1, 2] plL coL foL (caL_addTransition hf) rfl ⟨rfl, rfl⟩ chL_addTransition (by decide +kernel) rfl (by decide) (by decide) (by decide) hdL_addTransition owL_addTransition
def bL_removeTransition : Nat → List (Instr × Nat)
  | 0 => [(.aload_n 3, 1), (.iconst 0, 1), (.aload_n 0, 1), (.iload_n 1, 1), (.iload_n 2, 1)]
  | 5 => [(.invokevirtual 23, 3)]
  | 8 => [(.i2l, 1), (.lastore, 1), (.goto 7, 3)]
  | 17 => [(.iconst 0, 1), (.ireturn, 1)]
  | _ => []
theorem bL_removeTransition_0 : bL_removeTransition 0 = [(.aload_n 3, 1), (.iconst 0, 1), (.aload_n 0, 1), (.iload_n 1, 1), (.iload_n 2, 1)] := rfl
theorem bL_removeTransition_5 : bL_removeTransition 5 = [(.invokevirtual 23, 3)] := rfl
theorem bL_removeTransition_8 : bL_removeTransition 8 = [(.i2l, 1), (.lastore, 1), (.goto 7, 3)] := rfl
theorem bL_removeTransition_17 : bL_removeTransition 17 = [(.iconst 0, 1), (.ireturn, 1)] := rfl
def aL_removeTransition : pvCa
  | 23 => some (3, false, 8, 0, C_X9_removeTransition)
  | _ => none
def mL_removeTransition : Room := { frames := 9, cells := 1, slots := 6, locals := 146 }
theorem pnL_removeTransition : pvPn yL_removeTransition = some 4 := by decide +kernel
theorem caL_removeTransition {l : Launch} (hf : l.stackTraces = false) : pvCaOk l mL_removeTransition "EventClockWorkbenchLaw" pvTb 60 aL_removeTransition := by
  refine pvCaOk_i fun ix n b ci co C h => ?_
  unfold aL_removeTransition at h
  split at h
  · cases h; exact pvCe_V (k := 2) (T := TX9) (N := 11) (metX9_removeTransition hf) rfl wd_1_1 rfl wd_3_3 wd_3_4 wd_3_5 pnX9_removeTransition rfl wd_3_6
  · cases h
set_option maxRecDepth 100000 in
theorem chL_removeTransition : ∀ pc, pvChain cL_removeTransition pc (bL_removeTransition pc) := by
  intro pc
  unfold bL_removeTransition
  split <;> first | exact True.intro | exact pvChain_of (by decide +kernel)
theorem shL_removeTransition {as : List pvV} {z : pvM} {Q : pvO → pvM → Prop} (h : C_X9_removeTransition as z Q) : ∃ v1 v2 : Int, as = [vR 0, vI v1, vI v2] := by
  unfold C_X9_removeTransition at h
  split at h
  · obtain ⟨rfl, -⟩ := h
    exact ⟨_, _, rfl⟩
  · exact h.elim
set_option maxRecDepth 100000 in
set_option maxHeartbeats 4000000 in
theorem owL_removeTransition : ∀ as z Q, C_L_removeTransition as z Q → pvOkS as → pvCs as ≤ 5 ∧ ∃ (a9 rest st9 : List pvV) (Q0 : pvO → pvM → Prop), pvPop 3 st9 [] = some (a9, rest) ∧ pvCs rest ≤ 8 ∧ pvRecv 60 8 a9 ∧ C_X9_removeTransition a9 z Q0 ∧
      pvB 60 (0, fun _ => 0) fL aL_removeTransition kL pvEx0 1 (fun pc ls' st z' g => pc = 5 ∧ ls' = pvEn as 5 ∧ st = st9 ∧ z' = z ∧ g = 0) (fun _ _ _ => False) (fun _ _ _ _ => False) (bL_removeTransition 0) 0 (pvEn as 5) [] z 0 ∧
      (∀ v z', Q0 (.inl v) z' → (∀ x, v = some x → pvOk x) → pvB 60 (0, fun _ => 0) fL aL_removeTransition kL pvEx0 1 (pvX 60 (0, fun _ => 0) fL aL_removeTransition kL pvEx0 1 (pvRt (some .int) Q) (fun _ _ _ _ => False) bL_removeTransition (fun _ => none) (fun _ _ _ _ => False) 9) (pvRt (some .int) Q) (fun _ _ _ _ => False) (bL_removeTransition (5 + 3)) (5 + 3) (pvEn as 5) (pvPush v rest) z' 0) ∧
      (∀ k z', Q0 (.inr k) z' → k ∈ [0] ∧ Q (.inl (some (vI (hfF [0] k)))) z') := by
  intro as z Q h hS
  unfold C_L_removeTransition at h
  split at h
  · obtain ⟨rfl, h⟩ := h
    have e := shL_removeTransition h
    obtain ⟨v1, v2, e⟩ := e
    cases e
    refine ⟨Nat.le_of_ble_eq_true rfl, [vR 0, vI v1, vI v2], [vI 0, vR 58], [vI v2, vI v1, vR 0, vI 0, vR 58], wrI [0] Q, rfl, Nat.le_of_ble_eq_true rfl, ⟨rfl, by decide⟩, h, ?_, fun v z' hq hok => ?_, fun k z' hq => hq⟩
    · simp only [bL_removeTransition_0, bL_removeTransition_5, bL_removeTransition_8, bL_removeTransition_17, pvE_aload_n3, pvLA_s, pvLd, pvE_iconst, pvE_aload_n0, pvE_iload_n1, pvLI_s, pvE_iload_n2, pvE_invokevirtual, pvC1_s, pvC2_s, pvAf_v, pvAf_x, pvPop, pvCs, pvCat, pvPush, pvSh_0, pvSh_58, pvSh_59, pvE_i2l, pvE_lastore, pvAL, pvE_goto, pvE_astore, pvS1, List.length_cons, List.length_nil, pvClr_i, pvClr_r, pvClr_l, pvClr_d, pvClr_f, pvClr_n, pvE_ireturn, pvRecv_r, pvUp_nl, pvUp_same, pvUp_ap, pvSt_ap, pvX_c, pvX_ms, pvX_mn, pvE_nil, pvEn_i, pvEn_r, pvEn_l, pvEn_0, pvEn_s, pvRt, pvRv, pvTh, pvKc, pvGo, pvTgt, Int.toNat_natCast, false_and, and_false, true_and, and_true, if_true, if_false, reduceIte, reduceCtorEq, forall_const, false_or, or_false, true_or, or_true, ne_eq, not_true_eq_false, not_false_eq_true, implies_true, false_implies, Nat.reduceAdd, Nat.reduceSub, Nat.reduceMul, Nat.reduceEqDiff, Nat.reduceLT, Nat.reduceLeDiff, Int.reduceAdd, Int.reduceSub, Int.reduceMul, Int.reduceNeg, Int.reduceToNat, Int.reduceLE, Int.reduceLT, Int.reduceEq, Int.reduceNe, and_self, pvPush]
      (repeat' first | with_reducible apply And.intro | with_reducible intro _)
      all_goals first
        | omega
        | rfl
        | trivial
    rcases v with _ | (a | a | a | a | a)
    · exact hq.elim
    · simp only [wrI] at hq
      simp only [bL_removeTransition_0, bL_removeTransition_5, bL_removeTransition_8, bL_removeTransition_17, pvE_aload_n3, pvLA_s, pvLd, pvE_iconst, pvE_aload_n0, pvE_iload_n1, pvLI_s, pvE_iload_n2, pvE_invokevirtual, pvC1_s, pvC2_s, pvAf_v, pvAf_x, pvPop, pvCs, pvCat, pvPush, pvSh_0, pvSh_58, pvSh_59, pvE_i2l, pvE_lastore, pvAL, pvE_goto, pvE_astore, pvS1, List.length_cons, List.length_nil, pvClr_i, pvClr_r, pvClr_l, pvClr_d, pvClr_f, pvClr_n, pvE_ireturn, pvRecv_r, pvUp_nl, pvUp_same, pvUp_ap, pvSt_ap, pvX_c, pvX_ms, pvX_mn, pvE_nil, pvEn_i, pvEn_r, pvEn_l, pvEn_0, pvEn_s, pvRt, pvRv, pvTh, pvKc, pvGo, pvTgt, Int.toNat_natCast, false_and, and_false, true_and, and_true, if_true, if_false, reduceIte, reduceCtorEq, forall_const, false_or, or_false, true_or, or_true, ne_eq, not_true_eq_false, not_false_eq_true, implies_true, false_implies, Nat.reduceAdd, Nat.reduceSub, Nat.reduceMul, Nat.reduceEqDiff, Nat.reduceLT, Nat.reduceLeDiff, Int.reduceAdd, Int.reduceSub, Int.reduceMul, Int.reduceNeg, Int.reduceToNat, Int.reduceLE, Int.reduceLT, Int.reduceEq, Int.reduceNe, and_self, pvPush]
      (repeat' first | with_reducible apply And.intro | with_reducible intro _)
      all_goals first
        | omega
        | exact Or.inl rfl
        | exact hq (hok _ rfl)
    · exact hq.elim
    · exact hq.elim
    · exact hq.elim
    · exact hq.elim
  · exact h.elim
theorem hdL_removeTransition : ∀ i (x : Nat × Nat × Nat × Nat) (k : Nat), ([(0, 10, 13, 21)] : List (Nat × Nat × Nat × Nat))[i]? = some x → ([0] : List Nat)[i]? = some k → (x.1 ≤ 5 ∧ 5 < x.2.1 ∧ x.2.2.2 ≠ 0 ∧ pvHd cL_removeTransition 5 x.2.2.1 i) ∧ Cond.classLink "EventClockWorkbenchLaw" x.2.2.2 (pvXn k) ∈ pvTb := by
  intro i x k h1 h2
  match i, h1, h2 with
  | 0, h1, h2 => cases h1; cases h2; exact ⟨⟨by decide, by decide, by decide, ⟨4, by decide, Or.inr ⟨by decide +kernel, by decide +kernel, by decide +kernel⟩⟩⟩, wd_2_137⟩
  | n + 1, h1, h2 => simp at h1
theorem metWL_removeTransition {l : Launch} (hf : l.stackTraces = false) : pvMetW l yL_removeTransition (Cond.codeWith yL_removeTransition cL_removeTransition 5 (some .int) [(0, 10, 13, 21)] :: pvTb) mL_removeTransition C_L_removeTransition :=
  pvMetW_of (y := yL_removeTransition) 23 3 5 [0] plL coL foL (caL_removeTransition hf) rfl ⟨rfl, rfl⟩ chL_removeTransition (by decide +kernel) rfl (by decide) (by decide) (by decide) hdL_removeTransition owL_removeTransition
def bL_setInitial : Nat → List (Instr × Nat)
  | 0 => [(.aload 4, 2), (.iconst 0, 1), (.aload_n 0, 1), (.iload_n 1, 1), (.iload_n 2, 1), (.iload_n 3, 1)]
  | 7 => [(.invokevirtual 27, 3)]
  | 10 => [(.ifCond .eq 7, 3), (.lconst 1, 1), (.goto 4, 3)]
  | 17 => [(.lconst 0, 1)]
  | 18 => [(.lastore, 1), (.goto 7, 3)]
  | 26 => [(.iconst 0, 1), (.ireturn, 1)]
  | _ => []
theorem bL_setInitial_0 : bL_setInitial 0 = [(.aload 4, 2), (.iconst 0, 1), (.aload_n 0, 1), (.iload_n 1, 1), (.iload_n 2, 1), (.iload_n 3, 1)] := rfl
theorem bL_setInitial_7 : bL_setInitial 7 = [(.invokevirtual 27, 3)] := rfl
theorem bL_setInitial_10 : bL_setInitial 10 = [(.ifCond .eq 7, 3), (.lconst 1, 1), (.goto 4, 3)] := rfl
theorem bL_setInitial_17 : bL_setInitial 17 = [(.lconst 0, 1)] := rfl
theorem bL_setInitial_18 : bL_setInitial 18 = [(.lastore, 1), (.goto 7, 3)] := rfl
theorem bL_setInitial_26 : bL_setInitial 26 = [(.iconst 0, 1), (.ireturn, 1)] := rfl
def aL_setInitial : pvCa
  | 27 => some (4, false, 8, 0, C_X9_setInitial)
  | _ => none
def mL_setInitial : Room := { frames := 8, cells := 1, slots := 6, locals := 129 }
theorem pnL_setInitial : pvPn yL_setInitial = some 5 := by decide +kernel
theorem caL_setInitial {l : Launch} (hf : l.stackTraces = false) : pvCaOk l mL_setInitial "EventClockWorkbenchLaw" pvTb 60 aL_setInitial := by
  refine pvCaOk_i fun ix n b ci co C h => ?_
  unfold aL_setInitial at h
  split at h
  · cases h; exact pvCe_V (k := 3) (T := TX9) (N := 11) (metX9_setInitial hf) rfl wd_1_1 rfl wd_3_18 wd_3_19 wd_3_20 pnX9_setInitial rfl wd_3_21
  · cases h
set_option maxRecDepth 100000 in
theorem chL_setInitial : ∀ pc, pvChain cL_setInitial pc (bL_setInitial pc) := by
  intro pc
  unfold bL_setInitial
  split <;> first | exact True.intro | exact pvChain_of (by decide +kernel)
theorem shL_setInitial {as : List pvV} {z : pvM} {Q : pvO → pvM → Prop} (h : C_X9_setInitial as z Q) : ∃ v1 v2 v3 : Int, as = [vR 0, vI v1, vI v2, vI v3] := by
  unfold C_X9_setInitial at h
  split at h
  · obtain ⟨rfl, -⟩ := h
    exact ⟨_, _, _, rfl⟩
  · exact h.elim
set_option maxRecDepth 100000 in
set_option maxHeartbeats 4000000 in
theorem owL_setInitial : ∀ as z Q, C_L_setInitial as z Q → pvOkS as → pvCs as ≤ 6 ∧ ∃ (a9 rest st9 : List pvV) (Q0 : pvO → pvM → Prop), pvPop 4 st9 [] = some (a9, rest) ∧ pvCs rest ≤ 8 ∧ pvRecv 60 8 a9 ∧ C_X9_setInitial a9 z Q0 ∧
      pvB 60 (0, fun _ => 0) fL aL_setInitial kL pvEx0 1 (fun pc ls' st z' g => pc = 7 ∧ ls' = pvEn as 6 ∧ st = st9 ∧ z' = z ∧ g = 0) (fun _ _ _ => False) (fun _ _ _ _ => False) (bL_setInitial 0) 0 (pvEn as 6) [] z 0 ∧
      (∀ v z', Q0 (.inl v) z' → (∀ x, v = some x → pvOk x) → pvB 60 (0, fun _ => 0) fL aL_setInitial kL pvEx0 1 (pvX 60 (0, fun _ => 0) fL aL_setInitial kL pvEx0 1 (pvRt (some .int) Q) (fun _ _ _ _ => False) bL_setInitial (fun _ => none) (fun _ _ _ _ => False) 9) (pvRt (some .int) Q) (fun _ _ _ _ => False) (bL_setInitial (7 + 3)) (7 + 3) (pvEn as 6) (pvPush v rest) z' 0) ∧
      (∀ k z', Q0 (.inr k) z' → k ∈ [0] ∧ Q (.inl (some (vI (hfF [0] k)))) z') := by
  intro as z Q h hS
  unfold C_L_setInitial at h
  split at h
  · obtain ⟨rfl, h⟩ := h
    have e := shL_setInitial h
    obtain ⟨v1, v2, v3, e⟩ := e
    cases e
    refine ⟨Nat.le_of_ble_eq_true rfl, [vR 0, vI v1, vI v2, vI v3], [vI 0, vR 58], [vI v3, vI v2, vI v1, vR 0, vI 0, vR 58], wrB [0] Q, rfl, Nat.le_of_ble_eq_true rfl, ⟨rfl, by decide⟩, h, ?_, fun v z' hq hok => ?_, fun k z' hq => hq⟩
    · simp only [bL_setInitial_0, bL_setInitial_7, bL_setInitial_10, bL_setInitial_17, bL_setInitial_18, bL_setInitial_26, pvE_aload, pvLA_s, pvLd, pvE_iconst, pvE_aload_n0, pvE_iload_n1, pvLI_s, pvE_iload_n2, pvE_iload_n3, pvE_invokevirtual, pvC1_s, pvC2_s, pvAf_v, pvAf_x, pvPop, pvCs, pvCat, pvPush, pvSh_0, pvSh_58, pvSh_59, pvE_if_eq, pvE_lconst1, pvE_goto, pvE_lconst0, pvE_lastore, pvAL, pvE_astore, pvS1, List.length_cons, List.length_nil, pvClr_i, pvClr_r, pvClr_l, pvClr_d, pvClr_f, pvClr_n, pvE_ireturn, pvRecv_r, pvUp_nl, pvUp_same, pvUp_ap, pvSt_ap, pvX_c, pvX_ms, pvX_mn, pvE_nil, pvEn_i, pvEn_r, pvEn_l, pvEn_0, pvEn_s, pvRt, pvRv, pvTh, pvKc, pvGo, pvTgt, Int.toNat_natCast, false_and, and_false, true_and, and_true, if_true, if_false, reduceIte, reduceCtorEq, forall_const, false_or, or_false, true_or, or_true, ne_eq, not_true_eq_false, not_false_eq_true, implies_true, false_implies, Nat.reduceAdd, Nat.reduceSub, Nat.reduceMul, Nat.reduceEqDiff, Nat.reduceLT, Nat.reduceLeDiff, Int.reduceAdd, Int.reduceSub, Int.reduceMul, Int.reduceNeg, Int.reduceToNat, Int.reduceLE, Int.reduceLT, Int.reduceEq, Int.reduceNe, and_self, pvPush]
      (repeat' first | with_reducible apply And.intro | with_reducible intro _)
      all_goals first
        | omega
        | rfl
        | trivial
    rcases v with _ | (a | a | a | a | a)
    · exact hq.elim
    · simp only [wrB] at hq
      simp only [bL_setInitial_0, bL_setInitial_7, bL_setInitial_10, bL_setInitial_17, bL_setInitial_18, bL_setInitial_26, pvE_aload, pvLA_s, pvLd, pvE_iconst, pvE_aload_n0, pvE_iload_n1, pvLI_s, pvE_iload_n2, pvE_iload_n3, pvE_invokevirtual, pvC1_s, pvC2_s, pvAf_v, pvAf_x, pvPop, pvCs, pvCat, pvPush, pvSh_0, pvSh_58, pvSh_59, pvE_if_eq, pvE_lconst1, pvE_goto, pvE_lconst0, pvE_lastore, pvAL, pvE_astore, pvS1, List.length_cons, List.length_nil, pvClr_i, pvClr_r, pvClr_l, pvClr_d, pvClr_f, pvClr_n, pvE_ireturn, pvRecv_r, pvUp_nl, pvUp_same, pvUp_ap, pvSt_ap, pvX_c, pvX_ms, pvX_mn, pvE_nil, pvEn_i, pvEn_r, pvEn_l, pvEn_0, pvEn_s, pvRt, pvRv, pvTh, pvKc, pvGo, pvTgt, Int.toNat_natCast, false_and, and_false, true_and, and_true, if_true, if_false, reduceIte, reduceCtorEq, forall_const, false_or, or_false, true_or, or_true, ne_eq, not_true_eq_false, not_false_eq_true, implies_true, false_implies, Nat.reduceAdd, Nat.reduceSub, Nat.reduceMul, Nat.reduceEqDiff, Nat.reduceLT, Nat.reduceLeDiff, Int.reduceAdd, Int.reduceSub, Int.reduceMul, Int.reduceNeg, Int.reduceToNat, Int.reduceLE, Int.reduceLT, Int.reduceEq, Int.reduceNe, and_self, pvPush]
      (repeat' first | with_reducible apply And.intro | with_reducible intro _)
      all_goals first
        | omega
        | exact Or.inl rfl
        | (rename (_ : Int) = 0 => h0; subst h0; exact hq)
        | (rename ¬ (_ : Int) = 0 => h0; simp only [if_neg h0] at hq; exact hq)
    · exact hq.elim
    · exact hq.elim
    · exact hq.elim
    · exact hq.elim
  · exact h.elim
theorem hdL_setInitial : ∀ i (x : Nat × Nat × Nat × Nat) (k : Nat), ([(0, 19, 22, 21)] : List (Nat × Nat × Nat × Nat))[i]? = some x → ([0] : List Nat)[i]? = some k → (x.1 ≤ 7 ∧ 7 < x.2.1 ∧ x.2.2.2 ≠ 0 ∧ pvHd cL_setInitial 6 x.2.2.1 i) ∧ Cond.classLink "EventClockWorkbenchLaw" x.2.2.2 (pvXn k) ∈ pvTb := by
  intro i x k h1 h2
  match i, h1, h2 with
  | 0, h1, h2 => cases h1; cases h2; exact ⟨⟨by decide, by decide, by decide, ⟨5, by decide, Or.inr ⟨by decide +kernel, by decide +kernel, by decide +kernel⟩⟩⟩, wd_2_137⟩
  | n + 1, h1, h2 => simp at h1
theorem metWL_setInitial {l : Launch} (hf : l.stackTraces = false) : pvMetW l yL_setInitial (Cond.codeWith yL_setInitial cL_setInitial 6 (some .int) [(0, 19, 22, 21)] :: pvTb) mL_setInitial C_L_setInitial :=
  pvMetW_of (y := yL_setInitial) 27 4 7 [0] plL coL foL (caL_setInitial hf) rfl ⟨rfl, rfl⟩ chL_setInitial (by decide +kernel) rfl (by decide) (by decide) (by decide) hdL_setInitial owL_setInitial
def bL_setFinal : Nat → List (Instr × Nat)
  | 0 => [(.aload 4, 2), (.iconst 0, 1), (.aload_n 0, 1), (.iload_n 1, 1), (.iload_n 2, 1), (.iload_n 3, 1)]
  | 7 => [(.invokevirtual 31, 3)]
  | 10 => [(.ifCond .eq 7, 3), (.lconst 1, 1), (.goto 4, 3)]
  | 17 => [(.lconst 0, 1)]
  | 18 => [(.lastore, 1), (.goto 7, 3)]
  | 26 => [(.iconst 0, 1), (.ireturn, 1)]
  | _ => []
theorem bL_setFinal_0 : bL_setFinal 0 = [(.aload 4, 2), (.iconst 0, 1), (.aload_n 0, 1), (.iload_n 1, 1), (.iload_n 2, 1), (.iload_n 3, 1)] := rfl
theorem bL_setFinal_7 : bL_setFinal 7 = [(.invokevirtual 31, 3)] := rfl
theorem bL_setFinal_10 : bL_setFinal 10 = [(.ifCond .eq 7, 3), (.lconst 1, 1), (.goto 4, 3)] := rfl
theorem bL_setFinal_17 : bL_setFinal 17 = [(.lconst 0, 1)] := rfl
theorem bL_setFinal_18 : bL_setFinal 18 = [(.lastore, 1), (.goto 7, 3)] := rfl
theorem bL_setFinal_26 : bL_setFinal 26 = [(.iconst 0, 1), (.ireturn, 1)] := rfl
def aL_setFinal : pvCa
  | 31 => some (4, false, 8, 0, C_X9_setFinal)
  | _ => none
def mL_setFinal : Room := { frames := 8, cells := 1, slots := 6, locals := 129 }
theorem pnL_setFinal : pvPn yL_setFinal = some 5 := by decide +kernel
theorem caL_setFinal {l : Launch} (hf : l.stackTraces = false) : pvCaOk l mL_setFinal "EventClockWorkbenchLaw" pvTb 60 aL_setFinal := by
  refine pvCaOk_i fun ix n b ci co C h => ?_
  unfold aL_setFinal at h
  split at h
  · cases h; exact pvCe_V (k := 3) (T := TX9) (N := 11) (metX9_setFinal hf) rfl wd_1_1 rfl wd_3_39 wd_3_40 wd_3_41 pnX9_setFinal rfl wd_3_42
  · cases h
set_option maxRecDepth 100000 in
theorem chL_setFinal : ∀ pc, pvChain cL_setFinal pc (bL_setFinal pc) := by
  intro pc
  unfold bL_setFinal
  split <;> first | exact True.intro | exact pvChain_of (by decide +kernel)
theorem shL_setFinal {as : List pvV} {z : pvM} {Q : pvO → pvM → Prop} (h : C_X9_setFinal as z Q) : ∃ v1 v2 v3 : Int, as = [vR 0, vI v1, vI v2, vI v3] := by
  unfold C_X9_setFinal at h
  split at h
  · obtain ⟨rfl, -⟩ := h
    exact ⟨_, _, _, rfl⟩
  · exact h.elim
set_option maxRecDepth 100000 in
set_option maxHeartbeats 4000000 in
theorem owL_setFinal : ∀ as z Q, C_L_setFinal as z Q → pvOkS as → pvCs as ≤ 6 ∧ ∃ (a9 rest st9 : List pvV) (Q0 : pvO → pvM → Prop), pvPop 4 st9 [] = some (a9, rest) ∧ pvCs rest ≤ 8 ∧ pvRecv 60 8 a9 ∧ C_X9_setFinal a9 z Q0 ∧
      pvB 60 (0, fun _ => 0) fL aL_setFinal kL pvEx0 1 (fun pc ls' st z' g => pc = 7 ∧ ls' = pvEn as 6 ∧ st = st9 ∧ z' = z ∧ g = 0) (fun _ _ _ => False) (fun _ _ _ _ => False) (bL_setFinal 0) 0 (pvEn as 6) [] z 0 ∧
      (∀ v z', Q0 (.inl v) z' → (∀ x, v = some x → pvOk x) → pvB 60 (0, fun _ => 0) fL aL_setFinal kL pvEx0 1 (pvX 60 (0, fun _ => 0) fL aL_setFinal kL pvEx0 1 (pvRt (some .int) Q) (fun _ _ _ _ => False) bL_setFinal (fun _ => none) (fun _ _ _ _ => False) 9) (pvRt (some .int) Q) (fun _ _ _ _ => False) (bL_setFinal (7 + 3)) (7 + 3) (pvEn as 6) (pvPush v rest) z' 0) ∧
      (∀ k z', Q0 (.inr k) z' → k ∈ [0] ∧ Q (.inl (some (vI (hfF [0] k)))) z') := by
  intro as z Q h hS
  unfold C_L_setFinal at h
  split at h
  · obtain ⟨rfl, h⟩ := h
    have e := shL_setFinal h
    obtain ⟨v1, v2, v3, e⟩ := e
    cases e
    refine ⟨Nat.le_of_ble_eq_true rfl, [vR 0, vI v1, vI v2, vI v3], [vI 0, vR 58], [vI v3, vI v2, vI v1, vR 0, vI 0, vR 58], wrB [0] Q, rfl, Nat.le_of_ble_eq_true rfl, ⟨rfl, by decide⟩, h, ?_, fun v z' hq hok => ?_, fun k z' hq => hq⟩
    · simp only [bL_setFinal_0, bL_setFinal_7, bL_setFinal_10, bL_setFinal_17, bL_setFinal_18, bL_setFinal_26, pvE_aload, pvLA_s, pvLd, pvE_iconst, pvE_aload_n0, pvE_iload_n1, pvLI_s, pvE_iload_n2, pvE_iload_n3, pvE_invokevirtual, pvC1_s, pvC2_s, pvAf_v, pvAf_x, pvPop, pvCs, pvCat, pvPush, pvSh_0, pvSh_58, pvSh_59, pvE_if_eq, pvE_lconst1, pvE_goto, pvE_lconst0, pvE_lastore, pvAL, pvE_astore, pvS1, List.length_cons, List.length_nil, pvClr_i, pvClr_r, pvClr_l, pvClr_d, pvClr_f, pvClr_n, pvE_ireturn, pvRecv_r, pvUp_nl, pvUp_same, pvUp_ap, pvSt_ap, pvX_c, pvX_ms, pvX_mn, pvE_nil, pvEn_i, pvEn_r, pvEn_l, pvEn_0, pvEn_s, pvRt, pvRv, pvTh, pvKc, pvGo, pvTgt, Int.toNat_natCast, false_and, and_false, true_and, and_true, if_true, if_false, reduceIte, reduceCtorEq, forall_const, false_or, or_false, true_or, or_true, ne_eq, not_true_eq_false, not_false_eq_true, implies_true, false_implies, Nat.reduceAdd, Nat.reduceSub, Nat.reduceMul, Nat.reduceEqDiff, Nat.reduceLT, Nat.reduceLeDiff, Int.reduceAdd, Int.reduceSub, Int.reduceMul, Int.reduceNeg, Int.reduceToNat, Int.reduceLE, Int.reduceLT, Int.reduceEq, Int.reduceNe, and_self, pvPush]
      (repeat' first | with_reducible apply And.intro | with_reducible intro _)
      all_goals first
        | omega
        | rfl
        | trivial
    rcases v with _ | (a | a | a | a | a)
    · exact hq.elim
    · simp only [wrB] at hq
      simp only [bL_setFinal_0, bL_setFinal_7, bL_setFinal_10, bL_setFinal_17, bL_setFinal_18, bL_setFinal_26, pvE_aload, pvLA_s, pvLd, pvE_iconst, pvE_aload_n0, pvE_iload_n1, pvLI_s, pvE_iload_n2, pvE_iload_n3, pvE_invokevirtual, pvC1_s, pvC2_s, pvAf_v, pvAf_x, pvPop, pvCs, pvCat, pvPush, pvSh_0, pvSh_58, pvSh_59, pvE_if_eq, pvE_lconst1, pvE_goto, pvE_lconst0, pvE_lastore, pvAL, pvE_astore, pvS1, List.length_cons, List.length_nil, pvClr_i, pvClr_r, pvClr_l, pvClr_d, pvClr_f, pvClr_n, pvE_ireturn, pvRecv_r, pvUp_nl, pvUp_same, pvUp_ap, pvSt_ap, pvX_c, pvX_ms, pvX_mn, pvE_nil, pvEn_i, pvEn_r, pvEn_l, pvEn_0, pvEn_s, pvRt, pvRv, pvTh, pvKc, pvGo, pvTgt, Int.toNat_natCast, false_and, and_false, true_and, and_true, if_true, if_false, reduceIte, reduceCtorEq, forall_const, false_or, or_false, true_or, or_true, ne_eq, not_true_eq_false, not_false_eq_true, implies_true, false_implies, Nat.reduceAdd, Nat.reduceSub, Nat.reduceMul, Nat.reduceEqDiff, Nat.reduceLT, Nat.reduceLeDiff, Int.reduceAdd, Int.reduceSub, Int.reduceMul, Int.reduceNeg, Int.reduceToNat, Int.reduceLE, Int.reduceLT, Int.reduceEq, Int.reduceNe, and_self, pvPush]
      (repeat' first | with_reducible apply And.intro | with_reducible intro _)
      all_goals first
        | omega
        | exact Or.inl rfl
        | (rename (_ : Int) = 0 => h0; subst h0; exact hq)
        | (rename ¬ (_ : Int) = 0 => h0; simp only [if_neg h0] at hq; exact hq)
    · exact hq.elim
    · exact hq.elim
    · exact hq.elim
    · exact hq.elim
  · exact h.elim
theorem hdL_setFinal : ∀ i (x : Nat × Nat × Nat × Nat) (k : Nat), ([(0, 19, 22, 21)] : List (Nat × Nat × Nat × Nat))[i]? = some x → ([0] : List Nat)[i]? = some k → (x.1 ≤ 7 ∧ 7 < x.2.1 ∧ x.2.2.2 ≠ 0 ∧ pvHd cL_setFinal 6 x.2.2.1 i) ∧ Cond.classLink "EventClockWorkbenchLaw" x.2.2.2 (pvXn k) ∈ pvTb := by
  intro i x k h1 h2
  match i, h1, h2 with
  | 0, h1, h2 => cases h1; cases h2; exact ⟨⟨by decide, by decide, by decide, ⟨5, by decide, Or.inr ⟨by decide +kernel, by decide +kernel, by decide +kernel⟩⟩⟩, wd_2_137⟩
  | n + 1, h1, h2 => simp at h1
theorem metWL_setFinal {l : Launch} (hf : l.stackTraces = false) : pvMetW l yL_setFinal (Cond.codeWith yL_setFinal cL_setFinal 6 (some .int) [(0, 19, 22, 21)] :: pvTb) mL_setFinal C_L_setFinal :=
  pvMetW_of (y := yL_setFinal) 31 4 7 [0] plL coL foL (caL_setFinal hf) rfl ⟨rfl, rfl⟩ chL_setFinal (by decide +kernel) rfl (by decide) (by decide) (by decide) hdL_setFinal owL_setFinal
def bL_copyAutomaton : Nat → List (Instr × Nat)
  | 0 => [(.aload_n 0, 1), (.iload_n 1, 1)]
  | 2 => [(.invokevirtual 34, 3)]
  | 5 => [(.goto 6, 3)]
  | 11 => [(.iconst 0, 1), (.ireturn, 1)]
  | _ => []
theorem bL_copyAutomaton_0 : bL_copyAutomaton 0 = [(.aload_n 0, 1), (.iload_n 1, 1)] := rfl
theorem bL_copyAutomaton_2 : bL_copyAutomaton 2 = [(.invokevirtual 34, 3)] := rfl
theorem bL_copyAutomaton_5 : bL_copyAutomaton 5 = [(.goto 6, 3)] := rfl
theorem bL_copyAutomaton_11 : bL_copyAutomaton 11 = [(.iconst 0, 1), (.ireturn, 1)] := rfl
def aL_copyAutomaton : pvCa
  | 34 => some (2, false, 8, 0, C_X9_copyAutomaton)
  | _ => none
def mL_copyAutomaton : Room := { frames := 8, cells := 1, slots := 6, locals := 125 }
theorem pnL_copyAutomaton : pvPn yL_copyAutomaton = some 2 := by decide +kernel
theorem caL_copyAutomaton {l : Launch} (hf : l.stackTraces = false) : pvCaOk l mL_copyAutomaton "EventClockWorkbenchLaw" pvTb 60 aL_copyAutomaton := by
  refine pvCaOk_i fun ix n b ci co C h => ?_
  unfold aL_copyAutomaton at h
  split at h
  · cases h; exact pvCe_V (k := 1) (T := TX9) (N := 11) (metX9_copyAutomaton hf) rfl wd_1_1 rfl wd_3_54 wd_3_55 wd_3_56 pnX9_copyAutomaton rfl wd_3_57
  · cases h
set_option maxRecDepth 100000 in
theorem chL_copyAutomaton : ∀ pc, pvChain cL_copyAutomaton pc (bL_copyAutomaton pc) := by
  intro pc
  unfold bL_copyAutomaton
  split <;> first | exact True.intro | exact pvChain_of (by decide +kernel)
theorem shL_copyAutomaton {as : List pvV} {z : pvM} {Q : pvO → pvM → Prop} (h : C_X9_copyAutomaton as z Q) : ∃ v1 : Int, as = [vR 0, vI v1] := by
  unfold C_X9_copyAutomaton at h
  split at h
  · obtain ⟨rfl, -⟩ := h
    exact ⟨_, rfl⟩
  · exact h.elim
set_option maxRecDepth 100000 in
set_option maxHeartbeats 4000000 in
theorem owL_copyAutomaton : ∀ as z Q, C_L_copyAutomaton as z Q → pvOkS as → pvCs as ≤ 3 ∧ ∃ (a9 rest st9 : List pvV) (Q0 : pvO → pvM → Prop), pvPop 2 st9 [] = some (a9, rest) ∧ pvCs rest ≤ 8 ∧ pvRecv 60 8 a9 ∧ C_X9_copyAutomaton a9 z Q0 ∧
      pvB 60 (0, fun _ => 0) fL aL_copyAutomaton kL pvEx0 1 (fun pc ls' st z' g => pc = 2 ∧ ls' = pvEn as 3 ∧ st = st9 ∧ z' = z ∧ g = 0) (fun _ _ _ => False) (fun _ _ _ _ => False) (bL_copyAutomaton 0) 0 (pvEn as 3) [] z 0 ∧
      (∀ v z', Q0 (.inl v) z' → (∀ x, v = some x → pvOk x) → pvB 60 (0, fun _ => 0) fL aL_copyAutomaton kL pvEx0 1 (pvX 60 (0, fun _ => 0) fL aL_copyAutomaton kL pvEx0 1 (pvRt (some .int) Q) (fun _ _ _ _ => False) bL_copyAutomaton (fun _ => none) (fun _ _ _ _ => False) 9) (pvRt (some .int) Q) (fun _ _ _ _ => False) (bL_copyAutomaton (2 + 3)) (2 + 3) (pvEn as 3) (pvPush v rest) z' 0) ∧
      (∀ k z', Q0 (.inr k) z' → k ∈ [0] ∧ Q (.inl (some (vI (hfF [0] k)))) z') := by
  intro as z Q h hS
  unfold C_L_copyAutomaton at h
  split at h
  · have e := shL_copyAutomaton h
    obtain ⟨v1, e⟩ := e
    cases e
    refine ⟨Nat.le_of_ble_eq_true rfl, [vR 0, vI v1], [], [vI v1, vR 0], wrN [0] Q, rfl, Nat.le_of_ble_eq_true rfl, ⟨rfl, by decide⟩, h, ?_, fun v z' hq hok => ?_, fun k z' hq => hq⟩
    · simp only [bL_copyAutomaton_0, bL_copyAutomaton_2, bL_copyAutomaton_5, bL_copyAutomaton_11, pvE_aload_n0, pvLA_s, pvLd, pvE_iload_n1, pvLI_s, pvE_invokevirtual, pvC1_s, pvC2_s, pvAf_v, pvAf_x, pvPop, pvCs, pvCat, pvPush, pvSh_0, pvSh_58, pvSh_59, pvE_goto, pvE_astore_n2, pvS1, List.length_cons, List.length_nil, pvClr_i, pvClr_r, pvClr_l, pvClr_d, pvClr_f, pvClr_n, pvE_iconst, pvE_ireturn, pvRecv_r, pvUp_nl, pvUp_same, pvUp_ap, pvSt_ap, pvX_c, pvX_ms, pvX_mn, pvE_nil, pvEn_i, pvEn_r, pvEn_l, pvEn_0, pvEn_s, pvRt, pvRv, pvTh, pvKc, pvGo, pvTgt, Int.toNat_natCast, false_and, and_false, true_and, and_true, if_true, if_false, reduceIte, reduceCtorEq, forall_const, false_or, or_false, true_or, or_true, ne_eq, not_true_eq_false, not_false_eq_true, implies_true, false_implies, Nat.reduceAdd, Nat.reduceSub, Nat.reduceMul, Nat.reduceEqDiff, Nat.reduceLT, Nat.reduceLeDiff, Int.reduceAdd, Int.reduceSub, Int.reduceMul, Int.reduceNeg, Int.reduceToNat, Int.reduceLE, Int.reduceLT, Int.reduceEq, Int.reduceNe, and_self, pvPush]
      (repeat' first | with_reducible apply And.intro | with_reducible intro _)
      all_goals first
        | omega
        | rfl
        | trivial
    rcases v with _ | (a | a | a | a | a)
    · simp only [wrN] at hq
      simp only [bL_copyAutomaton_0, bL_copyAutomaton_2, bL_copyAutomaton_5, bL_copyAutomaton_11, pvE_aload_n0, pvLA_s, pvLd, pvE_iload_n1, pvLI_s, pvE_invokevirtual, pvC1_s, pvC2_s, pvAf_v, pvAf_x, pvPop, pvCs, pvCat, pvPush, pvSh_0, pvSh_58, pvSh_59, pvE_goto, pvE_astore_n2, pvS1, List.length_cons, List.length_nil, pvClr_i, pvClr_r, pvClr_l, pvClr_d, pvClr_f, pvClr_n, pvE_iconst, pvE_ireturn, pvRecv_r, pvUp_nl, pvUp_same, pvUp_ap, pvSt_ap, pvX_c, pvX_ms, pvX_mn, pvE_nil, pvEn_i, pvEn_r, pvEn_l, pvEn_0, pvEn_s, pvRt, pvRv, pvTh, pvKc, pvGo, pvTgt, Int.toNat_natCast, false_and, and_false, true_and, and_true, if_true, if_false, reduceIte, reduceCtorEq, forall_const, false_or, or_false, true_or, or_true, ne_eq, not_true_eq_false, not_false_eq_true, implies_true, false_implies, Nat.reduceAdd, Nat.reduceSub, Nat.reduceMul, Nat.reduceEqDiff, Nat.reduceLT, Nat.reduceLeDiff, Int.reduceAdd, Int.reduceSub, Int.reduceMul, Int.reduceNeg, Int.reduceToNat, Int.reduceLE, Int.reduceLT, Int.reduceEq, Int.reduceNe, and_self, pvPush]
      (repeat' first | with_reducible apply And.intro | with_reducible intro _)
      all_goals first
        | omega
        | exact Or.inl rfl
        | exact hq
    · exact hq.elim
    · exact hq.elim
    · exact hq.elim
    · exact hq.elim
    · exact hq.elim
  · exact h.elim
theorem hdL_copyAutomaton : ∀ i (x : Nat × Nat × Nat × Nat) (k : Nat), ([(0, 5, 8, 21)] : List (Nat × Nat × Nat × Nat))[i]? = some x → ([0] : List Nat)[i]? = some k → (x.1 ≤ 2 ∧ 2 < x.2.1 ∧ x.2.2.2 ≠ 0 ∧ pvHd cL_copyAutomaton 3 x.2.2.1 i) ∧ Cond.classLink "EventClockWorkbenchLaw" x.2.2.2 (pvXn k) ∈ pvTb := by
  intro i x k h1 h2
  match i, h1, h2 with
  | 0, h1, h2 => cases h1; cases h2; exact ⟨⟨by decide, by decide, by decide, ⟨2, by decide, Or.inl ⟨2, rfl, by decide +kernel, by decide +kernel, by decide +kernel⟩⟩⟩, wd_2_137⟩
  | n + 1, h1, h2 => simp at h1
theorem metWL_copyAutomaton {l : Launch} (hf : l.stackTraces = false) : pvMetW l yL_copyAutomaton (Cond.codeWith yL_copyAutomaton cL_copyAutomaton 3 (some .int) [(0, 5, 8, 21)] :: pvTb) mL_copyAutomaton C_L_copyAutomaton :=
  pvMetW_of (y := yL_copyAutomaton) 34 2 2 [0] plL coL foL (caL_copyAutomaton hf) rfl ⟨rfl, rfl⟩ chL_copyAutomaton (by decide +kernel) rfl (by decide) (by decide) (by decide) hdL_copyAutomaton owL_copyAutomaton
def bL_clearAutomaton : Nat → List (Instr × Nat)
  | 0 => [(.aload_n 0, 1), (.iload_n 1, 1)]
  | 2 => [(.invokevirtual 38, 3)]
  | 5 => [(.goto 6, 3)]
  | 11 => [(.iconst 0, 1), (.ireturn, 1)]
  | _ => []
theorem bL_clearAutomaton_0 : bL_clearAutomaton 0 = [(.aload_n 0, 1), (.iload_n 1, 1)] := rfl
theorem bL_clearAutomaton_2 : bL_clearAutomaton 2 = [(.invokevirtual 38, 3)] := rfl
theorem bL_clearAutomaton_5 : bL_clearAutomaton 5 = [(.goto 6, 3)] := rfl
theorem bL_clearAutomaton_11 : bL_clearAutomaton 11 = [(.iconst 0, 1), (.ireturn, 1)] := rfl
def aL_clearAutomaton : pvCa
  | 38 => some (2, false, 8, 0, C_X9_clearAutomaton)
  | _ => none
def mL_clearAutomaton : Room := { frames := 8, cells := 1, slots := 6, locals := 125 }
theorem pnL_clearAutomaton : pvPn yL_clearAutomaton = some 2 := by decide +kernel
theorem caL_clearAutomaton {l : Launch} (hf : l.stackTraces = false) : pvCaOk l mL_clearAutomaton "EventClockWorkbenchLaw" pvTb 60 aL_clearAutomaton := by
  refine pvCaOk_i fun ix n b ci co C h => ?_
  unfold aL_clearAutomaton at h
  split at h
  · cases h; exact pvCe_V (k := 1) (T := TX9) (N := 11) (metX9_clearAutomaton hf) rfl wd_1_1 rfl wd_3_65 wd_3_66 wd_3_67 pnX9_clearAutomaton rfl wd_3_68
  · cases h
set_option maxRecDepth 100000 in
theorem chL_clearAutomaton : ∀ pc, pvChain cL_clearAutomaton pc (bL_clearAutomaton pc) := by
  intro pc
  unfold bL_clearAutomaton
  split <;> first | exact True.intro | exact pvChain_of (by decide +kernel)
theorem shL_clearAutomaton {as : List pvV} {z : pvM} {Q : pvO → pvM → Prop} (h : C_X9_clearAutomaton as z Q) : ∃ v1 : Int, as = [vR 0, vI v1] := by
  unfold C_X9_clearAutomaton at h
  split at h
  · obtain ⟨rfl, -⟩ := h
    exact ⟨_, rfl⟩
  · exact h.elim
set_option maxRecDepth 100000 in
set_option maxHeartbeats 4000000 in
theorem owL_clearAutomaton : ∀ as z Q, C_L_clearAutomaton as z Q → pvOkS as → pvCs as ≤ 3 ∧ ∃ (a9 rest st9 : List pvV) (Q0 : pvO → pvM → Prop), pvPop 2 st9 [] = some (a9, rest) ∧ pvCs rest ≤ 8 ∧ pvRecv 60 8 a9 ∧ C_X9_clearAutomaton a9 z Q0 ∧
      pvB 60 (0, fun _ => 0) fL aL_clearAutomaton kL pvEx0 1 (fun pc ls' st z' g => pc = 2 ∧ ls' = pvEn as 3 ∧ st = st9 ∧ z' = z ∧ g = 0) (fun _ _ _ => False) (fun _ _ _ _ => False) (bL_clearAutomaton 0) 0 (pvEn as 3) [] z 0 ∧
      (∀ v z', Q0 (.inl v) z' → (∀ x, v = some x → pvOk x) → pvB 60 (0, fun _ => 0) fL aL_clearAutomaton kL pvEx0 1 (pvX 60 (0, fun _ => 0) fL aL_clearAutomaton kL pvEx0 1 (pvRt (some .int) Q) (fun _ _ _ _ => False) bL_clearAutomaton (fun _ => none) (fun _ _ _ _ => False) 9) (pvRt (some .int) Q) (fun _ _ _ _ => False) (bL_clearAutomaton (2 + 3)) (2 + 3) (pvEn as 3) (pvPush v rest) z' 0) ∧
      (∀ k z', Q0 (.inr k) z' → k ∈ [0] ∧ Q (.inl (some (vI (hfF [0] k)))) z') := by
  intro as z Q h hS
  unfold C_L_clearAutomaton at h
  split at h
  · have e := shL_clearAutomaton h
    obtain ⟨v1, e⟩ := e
    cases e
    refine ⟨Nat.le_of_ble_eq_true rfl, [vR 0, vI v1], [], [vI v1, vR 0], wrN [0] Q, rfl, Nat.le_of_ble_eq_true rfl, ⟨rfl, by decide⟩, h, ?_, fun v z' hq hok => ?_, fun k z' hq => hq⟩
    · simp only [bL_clearAutomaton_0, bL_clearAutomaton_2, bL_clearAutomaton_5, bL_clearAutomaton_11, pvE_aload_n0, pvLA_s, pvLd, pvE_iload_n1, pvLI_s, pvE_invokevirtual, pvC1_s, pvC2_s, pvAf_v, pvAf_x, pvPop, pvCs, pvCat, pvPush, pvSh_0, pvSh_58, pvSh_59, pvE_goto, pvE_astore_n2, pvS1, List.length_cons, List.length_nil, pvClr_i, pvClr_r, pvClr_l, pvClr_d, pvClr_f, pvClr_n, pvE_iconst, pvE_ireturn, pvRecv_r, pvUp_nl, pvUp_same, pvUp_ap, pvSt_ap, pvX_c, pvX_ms, pvX_mn, pvE_nil, pvEn_i, pvEn_r, pvEn_l, pvEn_0, pvEn_s, pvRt, pvRv, pvTh, pvKc, pvGo, pvTgt, Int.toNat_natCast, false_and, and_false, true_and, and_true, if_true, if_false, reduceIte, reduceCtorEq, forall_const, false_or, or_false, true_or, or_true, ne_eq, not_true_eq_false, not_false_eq_true, implies_true, false_implies, Nat.reduceAdd, Nat.reduceSub, Nat.reduceMul, Nat.reduceEqDiff, Nat.reduceLT, Nat.reduceLeDiff, Int.reduceAdd, Int.reduceSub, Int.reduceMul, Int.reduceNeg, Int.reduceToNat, Int.reduceLE, Int.reduceLT, Int.reduceEq, Int.reduceNe, and_self, pvPush]
      (repeat' first | with_reducible apply And.intro | with_reducible intro _)
      all_goals first
        | omega
        | rfl
        | trivial
    rcases v with _ | (a | a | a | a | a)
    · simp only [wrN] at hq
      simp only [bL_clearAutomaton_0, bL_clearAutomaton_2, bL_clearAutomaton_5, bL_clearAutomaton_11, pvE_aload_n0, pvLA_s, pvLd, pvE_iload_n1, pvLI_s, pvE_invokevirtual, pvC1_s, pvC2_s, pvAf_v, pvAf_x, pvPop, pvCs, pvCat, pvPush, pvSh_0, pvSh_58, pvSh_59, pvE_goto, pvE_astore_n2, pvS1, List.length_cons, List.length_nil, pvClr_i, pvClr_r, pvClr_l, pvClr_d, pvClr_f, pvClr_n, pvE_iconst, pvE_ireturn, pvRecv_r, pvUp_nl, pvUp_same, pvUp_ap, pvSt_ap, pvX_c, pvX_ms, pvX_mn, pvE_nil, pvEn_i, pvEn_r, pvEn_l, pvEn_0, pvEn_s, pvRt, pvRv, pvTh, pvKc, pvGo, pvTgt, Int.toNat_natCast, false_and, and_false, true_and, and_true, if_true, if_false, reduceIte, reduceCtorEq, forall_const, false_or, or_false, true_or, or_true, ne_eq, not_true_eq_false, not_false_eq_true, implies_true, false_implies, Nat.reduceAdd, Nat.reduceSub, Nat.reduceMul, Nat.reduceEqDiff, Nat.reduceLT, Nat.reduceLeDiff, Int.reduceAdd, Int.reduceSub, Int.reduceMul, Int.reduceNeg, Int.reduceToNat, Int.reduceLE, Int.reduceLT, Int.reduceEq, Int.reduceNe, and_self, pvPush]
      (repeat' first | with_reducible apply And.intro | with_reducible intro _)
      all_goals first
        | omega
        | exact Or.inl rfl
        | exact hq
    · exact hq.elim
    · exact hq.elim
    · exact hq.elim
    · exact hq.elim
    · exact hq.elim
  · exact h.elim
theorem hdL_clearAutomaton : ∀ i (x : Nat × Nat × Nat × Nat) (k : Nat), ([(0, 5, 8, 21)] : List (Nat × Nat × Nat × Nat))[i]? = some x → ([0] : List Nat)[i]? = some k → (x.1 ≤ 2 ∧ 2 < x.2.1 ∧ x.2.2.2 ≠ 0 ∧ pvHd cL_clearAutomaton 3 x.2.2.1 i) ∧ Cond.classLink "EventClockWorkbenchLaw" x.2.2.2 (pvXn k) ∈ pvTb := by
  intro i x k h1 h2
  match i, h1, h2 with
  | 0, h1, h2 => cases h1; cases h2; exact ⟨⟨by decide, by decide, by decide, ⟨2, by decide, Or.inl ⟨2, rfl, by decide +kernel, by decide +kernel, by decide +kernel⟩⟩⟩, wd_2_137⟩
  | n + 1, h1, h2 => simp at h1
theorem metWL_clearAutomaton {l : Launch} (hf : l.stackTraces = false) : pvMetW l yL_clearAutomaton (Cond.codeWith yL_clearAutomaton cL_clearAutomaton 3 (some .int) [(0, 5, 8, 21)] :: pvTb) mL_clearAutomaton C_L_clearAutomaton :=
  pvMetW_of (y := yL_clearAutomaton) 38 2 2 [0] plL coL foL (caL_clearAutomaton hf) rfl ⟨rfl, rfl⟩ chL_clearAutomaton (by decide +kernel) rfl (by decide) (by decide) (by decide) hdL_clearAutomaton owL_clearAutomaton
def bL_transitionCount : Nat → List (Instr × Nat)
  | 0 => [(.aload_n 2, 1), (.iconst 0, 1), (.aload_n 0, 1), (.iload_n 1, 1)]
  | 4 => [(.invokevirtual 41, 3)]
  | 7 => [(.i2l, 1), (.lastore, 1), (.goto 6, 3)]
  | 15 => [(.iconst 0, 1), (.ireturn, 1)]
  | _ => []
theorem bL_transitionCount_0 : bL_transitionCount 0 = [(.aload_n 2, 1), (.iconst 0, 1), (.aload_n 0, 1), (.iload_n 1, 1)] := rfl
theorem bL_transitionCount_4 : bL_transitionCount 4 = [(.invokevirtual 41, 3)] := rfl
theorem bL_transitionCount_7 : bL_transitionCount 7 = [(.i2l, 1), (.lastore, 1), (.goto 6, 3)] := rfl
theorem bL_transitionCount_15 : bL_transitionCount 15 = [(.iconst 0, 1), (.ireturn, 1)] := rfl
def aL_transitionCount : pvCa
  | 41 => some (2, false, 8, 0, C_X9_transitionCount)
  | _ => none
def mL_transitionCount : Room := { frames := 8, cells := 1, slots := 6, locals := 123 }
theorem pnL_transitionCount : pvPn yL_transitionCount = some 3 := by decide +kernel
theorem caL_transitionCount {l : Launch} (hf : l.stackTraces = false) : pvCaOk l mL_transitionCount "EventClockWorkbenchLaw" pvTb 60 aL_transitionCount := by
  refine pvCaOk_i fun ix n b ci co C h => ?_
  unfold aL_transitionCount at h
  split at h
  · cases h; exact pvCe_V (k := 1) (T := TX9) (N := 11) (metX9_transitionCount hf) rfl wd_1_1 rfl wd_3_76 wd_3_77 wd_3_78 pnX9_transitionCount rfl wd_3_79
  · cases h
set_option maxRecDepth 100000 in
theorem chL_transitionCount : ∀ pc, pvChain cL_transitionCount pc (bL_transitionCount pc) := by
  intro pc
  unfold bL_transitionCount
  split <;> first | exact True.intro | exact pvChain_of (by decide +kernel)
theorem shL_transitionCount {as : List pvV} {z : pvM} {Q : pvO → pvM → Prop} (h : C_X9_transitionCount as z Q) : ∃ v1 : Int, as = [vR 0, vI v1] := by
  unfold C_X9_transitionCount at h
  split at h
  · obtain ⟨rfl, -⟩ := h
    exact ⟨_, rfl⟩
  · exact h.elim
set_option maxRecDepth 100000 in
set_option maxHeartbeats 4000000 in
theorem owL_transitionCount : ∀ as z Q, C_L_transitionCount as z Q → pvOkS as → pvCs as ≤ 4 ∧ ∃ (a9 rest st9 : List pvV) (Q0 : pvO → pvM → Prop), pvPop 2 st9 [] = some (a9, rest) ∧ pvCs rest ≤ 8 ∧ pvRecv 60 8 a9 ∧ C_X9_transitionCount a9 z Q0 ∧
      pvB 60 (0, fun _ => 0) fL aL_transitionCount kL pvEx0 1 (fun pc ls' st z' g => pc = 4 ∧ ls' = pvEn as 4 ∧ st = st9 ∧ z' = z ∧ g = 0) (fun _ _ _ => False) (fun _ _ _ _ => False) (bL_transitionCount 0) 0 (pvEn as 4) [] z 0 ∧
      (∀ v z', Q0 (.inl v) z' → (∀ x, v = some x → pvOk x) → pvB 60 (0, fun _ => 0) fL aL_transitionCount kL pvEx0 1 (pvX 60 (0, fun _ => 0) fL aL_transitionCount kL pvEx0 1 (pvRt (some .int) Q) (fun _ _ _ _ => False) bL_transitionCount (fun _ => none) (fun _ _ _ _ => False) 9) (pvRt (some .int) Q) (fun _ _ _ _ => False) (bL_transitionCount (4 + 3)) (4 + 3) (pvEn as 4) (pvPush v rest) z' 0) ∧
      (∀ k z', Q0 (.inr k) z' → k ∈ [0] ∧ Q (.inl (some (vI (hfF [0] k)))) z') := by
  intro as z Q h hS
  unfold C_L_transitionCount at h
  split at h
  · obtain ⟨rfl, h⟩ := h
    have e := shL_transitionCount h
    obtain ⟨v1, e⟩ := e
    cases e
    refine ⟨Nat.le_of_ble_eq_true rfl, [vR 0, vI v1], [vI 0, vR 58], [vI v1, vR 0, vI 0, vR 58], wrI [0] Q, rfl, Nat.le_of_ble_eq_true rfl, ⟨rfl, by decide⟩, h, ?_, fun v z' hq hok => ?_, fun k z' hq => hq⟩
    · simp only [bL_transitionCount_0, bL_transitionCount_4, bL_transitionCount_7, bL_transitionCount_15, pvE_aload_n2, pvLA_s, pvLd, pvE_iconst, pvE_aload_n0, pvE_iload_n1, pvLI_s, pvE_invokevirtual, pvC1_s, pvC2_s, pvAf_v, pvAf_x, pvPop, pvCs, pvCat, pvPush, pvSh_0, pvSh_58, pvSh_59, pvE_i2l, pvE_lastore, pvAL, pvE_goto, pvE_astore_n3, pvS1, List.length_cons, List.length_nil, pvClr_i, pvClr_r, pvClr_l, pvClr_d, pvClr_f, pvClr_n, pvE_ireturn, pvRecv_r, pvUp_nl, pvUp_same, pvUp_ap, pvSt_ap, pvX_c, pvX_ms, pvX_mn, pvE_nil, pvEn_i, pvEn_r, pvEn_l, pvEn_0, pvEn_s, pvRt, pvRv, pvTh, pvKc, pvGo, pvTgt, Int.toNat_natCast, false_and, and_false, true_and, and_true, if_true, if_false, reduceIte, reduceCtorEq, forall_const, false_or, or_false, true_or, or_true, ne_eq, not_true_eq_false, not_false_eq_true, implies_true, false_implies, Nat.reduceAdd, Nat.reduceSub, Nat.reduceMul, Nat.reduceEqDiff, Nat.reduceLT, Nat.reduceLeDiff, Int.reduceAdd, Int.reduceSub, Int.reduceMul, Int.reduceNeg, Int.reduceToNat, Int.reduceLE, Int.reduceLT, Int.reduceEq, Int.reduceNe, and_self, pvPush]
      (repeat' first | with_reducible apply And.intro | with_reducible intro _)
      all_goals first
        | omega
        | rfl
        | trivial
    rcases v with _ | (a | a | a | a | a)
    · exact hq.elim
    · simp only [wrI] at hq
      simp only [bL_transitionCount_0, bL_transitionCount_4, bL_transitionCount_7, bL_transitionCount_15, pvE_aload_n2, pvLA_s, pvLd, pvE_iconst, pvE_aload_n0, pvE_iload_n1, pvLI_s, pvE_invokevirtual, pvC1_s, pvC2_s, pvAf_v, pvAf_x, pvPop, pvCs, pvCat, pvPush, pvSh_0, pvSh_58, pvSh_59, pvE_i2l, pvE_lastore, pvAL, pvE_goto, pvE_astore_n3, pvS1, List.length_cons, List.length_nil, pvClr_i, pvClr_r, pvClr_l, pvClr_d, pvClr_f, pvClr_n, pvE_ireturn, pvRecv_r, pvUp_nl, pvUp_same, pvUp_ap, pvSt_ap, pvX_c, pvX_ms, pvX_mn, pvE_nil, pvEn_i, pvEn_r, pvEn_l, pvEn_0, pvEn_s, pvRt, pvRv, pvTh, pvKc, pvGo, pvTgt, Int.toNat_natCast, false_and, and_false, true_and, and_true, if_true, if_false, reduceIte, reduceCtorEq, forall_const, false_or, or_false, true_or, or_true, ne_eq, not_true_eq_false, not_false_eq_true, implies_true, false_implies, Nat.reduceAdd, Nat.reduceSub, Nat.reduceMul, Nat.reduceEqDiff, Nat.reduceLT, Nat.reduceLeDiff, Int.reduceAdd, Int.reduceSub, Int.reduceMul, Int.reduceNeg, Int.reduceToNat, Int.reduceLE, Int.reduceLT, Int.reduceEq, Int.reduceNe, and_self, pvPush]
      (repeat' first | with_reducible apply And.intro | with_reducible intro _)
      all_goals first
        | omega
        | exact Or.inl rfl
        | exact hq (hok _ rfl)
    · exact hq.elim
    · exact hq.elim
    · exact hq.elim
    · exact hq.elim
  · exact h.elim
theorem hdL_transitionCount : ∀ i (x : Nat × Nat × Nat × Nat) (k : Nat), ([(0, 9, 12, 21)] : List (Nat × Nat × Nat × Nat))[i]? = some x → ([0] : List Nat)[i]? = some k → (x.1 ≤ 4 ∧ 4 < x.2.1 ∧ x.2.2.2 ≠ 0 ∧ pvHd cL_transitionCount 4 x.2.2.1 i) ∧ Cond.classLink "EventClockWorkbenchLaw" x.2.2.2 (pvXn k) ∈ pvTb := by
  intro i x k h1 h2
  match i, h1, h2 with
  | 0, h1, h2 => cases h1; cases h2; exact ⟨⟨by decide, by decide, by decide, ⟨3, by decide, Or.inl ⟨3, rfl, by decide +kernel, by decide +kernel, by decide +kernel⟩⟩⟩, wd_2_137⟩
  | n + 1, h1, h2 => simp at h1
theorem metWL_transitionCount {l : Launch} (hf : l.stackTraces = false) : pvMetW l yL_transitionCount (Cond.codeWith yL_transitionCount cL_transitionCount 4 (some .int) [(0, 9, 12, 21)] :: pvTb) mL_transitionCount C_L_transitionCount :=
  pvMetW_of (y := yL_transitionCount) 41 2 4 [0] plL coL foL (caL_transitionCount hf) rfl ⟨rfl, rfl⟩ chL_transitionCount (by decide +kernel) rfl (by decide) (by decide) (by decide) hdL_transitionCount owL_transitionCount
def bL_transition : Nat → List (Instr × Nat)
  | 0 => [(.aload 4, 2), (.iconst 0, 1), (.aload_n 0, 1), (.iload_n 1, 1), (.iload_n 2, 1), (.iload_n 3, 1)]
  | 7 => [(.invokevirtual 44, 3)]
  | 10 => [(.i2l, 1), (.lastore, 1), (.goto 7, 3)]
  | 19 => [(.iconst 0, 1), (.ireturn, 1)]
  | _ => []
theorem bL_transition_0 : bL_transition 0 = [(.aload 4, 2), (.iconst 0, 1), (.aload_n 0, 1), (.iload_n 1, 1), (.iload_n 2, 1), (.iload_n 3, 1)] := rfl
theorem bL_transition_7 : bL_transition 7 = [(.invokevirtual 44, 3)] := rfl
theorem bL_transition_10 : bL_transition 10 = [(.i2l, 1), (.lastore, 1), (.goto 7, 3)] := rfl
theorem bL_transition_19 : bL_transition 19 = [(.iconst 0, 1), (.ireturn, 1)] := rfl
def aL_transition : pvCa
  | 44 => some (4, false, 8, 0, C_X9_transition)
  | _ => none
def mL_transition : Room := { frames := 9, cells := 1, slots := 6, locals := 147 }
theorem pnL_transition : pvPn yL_transition = some 5 := by decide +kernel
theorem caL_transition {l : Launch} (hf : l.stackTraces = false) : pvCaOk l mL_transition "EventClockWorkbenchLaw" pvTb 60 aL_transition := by
  refine pvCaOk_i fun ix n b ci co C h => ?_
  unfold aL_transition at h
  split at h
  · cases h; exact pvCe_V (k := 3) (T := TX9) (N := 11) (metX9_transition hf) rfl wd_1_1 rfl wd_3_83 wd_3_84 wd_3_85 pnX9_transition rfl wd_3_86
  · cases h
set_option maxRecDepth 100000 in
theorem chL_transition : ∀ pc, pvChain cL_transition pc (bL_transition pc) := by
  intro pc
  unfold bL_transition
  split <;> first | exact True.intro | exact pvChain_of (by decide +kernel)
theorem shL_transition {as : List pvV} {z : pvM} {Q : pvO → pvM → Prop} (h : C_X9_transition as z Q) : ∃ v1 v2 v3 : Int, as = [vR 0, vI v1, vI v2, vI v3] := by
  unfold C_X9_transition at h
  split at h
  · obtain ⟨rfl, -⟩ := h
    exact ⟨_, _, _, rfl⟩
  · exact h.elim
set_option maxRecDepth 100000 in
set_option maxHeartbeats 4000000 in
theorem owL_transition : ∀ as z Q, C_L_transition as z Q → pvOkS as → pvCs as ≤ 6 ∧ ∃ (a9 rest st9 : List pvV) (Q0 : pvO → pvM → Prop), pvPop 4 st9 [] = some (a9, rest) ∧ pvCs rest ≤ 8 ∧ pvRecv 60 8 a9 ∧ C_X9_transition a9 z Q0 ∧
      pvB 60 (0, fun _ => 0) fL aL_transition kL pvEx0 1 (fun pc ls' st z' g => pc = 7 ∧ ls' = pvEn as 6 ∧ st = st9 ∧ z' = z ∧ g = 0) (fun _ _ _ => False) (fun _ _ _ _ => False) (bL_transition 0) 0 (pvEn as 6) [] z 0 ∧
      (∀ v z', Q0 (.inl v) z' → (∀ x, v = some x → pvOk x) → pvB 60 (0, fun _ => 0) fL aL_transition kL pvEx0 1 (pvX 60 (0, fun _ => 0) fL aL_transition kL pvEx0 1 (pvRt (some .int) Q) (fun _ _ _ _ => False) bL_transition (fun _ => none) (fun _ _ _ _ => False) 9) (pvRt (some .int) Q) (fun _ _ _ _ => False) (bL_transition (7 + 3)) (7 + 3) (pvEn as 6) (pvPush v rest) z' 0) ∧
      (∀ k z', Q0 (.inr k) z' → k ∈ [0] ∧ Q (.inl (some (vI (hfF [0] k)))) z') := by
  intro as z Q h hS
  unfold C_L_transition at h
  split at h
  · obtain ⟨rfl, h⟩ := h
    have e := shL_transition h
    obtain ⟨v1, v2, v3, e⟩ := e
    cases e
    refine ⟨Nat.le_of_ble_eq_true rfl, [vR 0, vI v1, vI v2, vI v3], [vI 0, vR 58], [vI v3, vI v2, vI v1, vR 0, vI 0, vR 58], wrI [0] Q, rfl, Nat.le_of_ble_eq_true rfl, ⟨rfl, by decide⟩, h, ?_, fun v z' hq hok => ?_, fun k z' hq => hq⟩
    · simp only [bL_transition_0, bL_transition_7, bL_transition_10, bL_transition_19, pvE_aload, pvLA_s, pvLd, pvE_iconst, pvE_aload_n0, pvE_iload_n1, pvLI_s, pvE_iload_n2, pvE_iload_n3, pvE_invokevirtual, pvC1_s, pvC2_s, pvAf_v, pvAf_x, pvPop, pvCs, pvCat, pvPush, pvSh_0, pvSh_58, pvSh_59, pvE_i2l, pvE_lastore, pvAL, pvE_goto, pvE_astore, pvS1, List.length_cons, List.length_nil, pvClr_i, pvClr_r, pvClr_l, pvClr_d, pvClr_f, pvClr_n, pvE_ireturn, pvRecv_r, pvUp_nl, pvUp_same, pvUp_ap, pvSt_ap, pvX_c, pvX_ms, pvX_mn, pvE_nil, pvEn_i, pvEn_r, pvEn_l, pvEn_0, pvEn_s, pvRt, pvRv, pvTh, pvKc, pvGo, pvTgt, Int.toNat_natCast, false_and, and_false, true_and, and_true, if_true, if_false, reduceIte, reduceCtorEq, forall_const, false_or, or_false, true_or, or_true, ne_eq, not_true_eq_false, not_false_eq_true, implies_true, false_implies, Nat.reduceAdd, Nat.reduceSub, Nat.reduceMul, Nat.reduceEqDiff, Nat.reduceLT, Nat.reduceLeDiff, Int.reduceAdd, Int.reduceSub, Int.reduceMul, Int.reduceNeg, Int.reduceToNat, Int.reduceLE, Int.reduceLT, Int.reduceEq, Int.reduceNe, and_self, pvPush]
      (repeat' first | with_reducible apply And.intro | with_reducible intro _)
      all_goals first
        | omega
        | rfl
        | trivial
    rcases v with _ | (a | a | a | a | a)
    · exact hq.elim
    · simp only [wrI] at hq
      simp only [bL_transition_0, bL_transition_7, bL_transition_10, bL_transition_19, pvE_aload, pvLA_s, pvLd, pvE_iconst, pvE_aload_n0, pvE_iload_n1, pvLI_s, pvE_iload_n2, pvE_iload_n3, pvE_invokevirtual, pvC1_s, pvC2_s, pvAf_v, pvAf_x, pvPop, pvCs, pvCat, pvPush, pvSh_0, pvSh_58, pvSh_59, pvE_i2l, pvE_lastore, pvAL, pvE_goto, pvE_astore, pvS1, List.length_cons, List.length_nil, pvClr_i, pvClr_r, pvClr_l, pvClr_d, pvClr_f, pvClr_n, pvE_ireturn, pvRecv_r, pvUp_nl, pvUp_same, pvUp_ap, pvSt_ap, pvX_c, pvX_ms, pvX_mn, pvE_nil, pvEn_i, pvEn_r, pvEn_l, pvEn_0, pvEn_s, pvRt, pvRv, pvTh, pvKc, pvGo, pvTgt, Int.toNat_natCast, false_and, and_false, true_and, and_true, if_true, if_false, reduceIte, reduceCtorEq, forall_const, false_or, or_false, true_or, or_true, ne_eq, not_true_eq_false, not_false_eq_true, implies_true, false_implies, Nat.reduceAdd, Nat.reduceSub, Nat.reduceMul, Nat.reduceEqDiff, Nat.reduceLT, Nat.reduceLeDiff, Int.reduceAdd, Int.reduceSub, Int.reduceMul, Int.reduceNeg, Int.reduceToNat, Int.reduceLE, Int.reduceLT, Int.reduceEq, Int.reduceNe, and_self, pvPush]
      (repeat' first | with_reducible apply And.intro | with_reducible intro _)
      all_goals first
        | omega
        | exact Or.inl rfl
        | exact hq (hok _ rfl)
    · exact hq.elim
    · exact hq.elim
    · exact hq.elim
    · exact hq.elim
  · exact h.elim
theorem hdL_transition : ∀ i (x : Nat × Nat × Nat × Nat) (k : Nat), ([(0, 12, 15, 21)] : List (Nat × Nat × Nat × Nat))[i]? = some x → ([0] : List Nat)[i]? = some k → (x.1 ≤ 7 ∧ 7 < x.2.1 ∧ x.2.2.2 ≠ 0 ∧ pvHd cL_transition 6 x.2.2.1 i) ∧ Cond.classLink "EventClockWorkbenchLaw" x.2.2.2 (pvXn k) ∈ pvTb := by
  intro i x k h1 h2
  match i, h1, h2 with
  | 0, h1, h2 => cases h1; cases h2; exact ⟨⟨by decide, by decide, by decide, ⟨5, by decide, Or.inr ⟨by decide +kernel, by decide +kernel, by decide +kernel⟩⟩⟩, wd_2_137⟩
  | n + 1, h1, h2 => simp at h1
theorem metWL_transition {l : Launch} (hf : l.stackTraces = false) : pvMetW l yL_transition (Cond.codeWith yL_transition cL_transition 6 (some .int) [(0, 12, 15, 21)] :: pvTb) mL_transition C_L_transition :=
  pvMetW_of (y := yL_transition) 44 4 7 [0] plL coL foL (caL_transition hf) rfl ⟨rfl, rfl⟩ chL_transition (by decide +kernel) rfl (by decide) (by decide) (by decide) hdL_transition owL_transition
def bL_constraint : Nat → List (Instr × Nat)
  | 0 => [(.aload 5, 2), (.iconst 0, 1), (.aload_n 0, 1), (.iload_n 1, 1), (.iload_n 2, 1), (.iload_n 3, 1), (.iload 4, 2)]
  | 9 => [(.invokevirtual 48, 3)]
  | 12 => [(.i2l, 1), (.lastore, 1), (.goto 7, 3)]
  | 21 => [(.iconst 0, 1), (.ireturn, 1)]
  | _ => []
theorem bL_constraint_0 : bL_constraint 0 = [(.aload 5, 2), (.iconst 0, 1), (.aload_n 0, 1), (.iload_n 1, 1), (.iload_n 2, 1), (.iload_n 3, 1), (.iload 4, 2)] := rfl
theorem bL_constraint_9 : bL_constraint 9 = [(.invokevirtual 48, 3)] := rfl
theorem bL_constraint_12 : bL_constraint 12 = [(.i2l, 1), (.lastore, 1), (.goto 7, 3)] := rfl
theorem bL_constraint_21 : bL_constraint 21 = [(.iconst 0, 1), (.ireturn, 1)] := rfl
def aL_constraint : pvCa
  | 48 => some (5, false, 8, 0, C_X9_constraint)
  | _ => none
def mL_constraint : Room := { frames := 9, cells := 1, slots := 6, locals := 148 }
theorem pnL_constraint : pvPn yL_constraint = some 6 := by decide +kernel
theorem caL_constraint {l : Launch} (hf : l.stackTraces = false) : pvCaOk l mL_constraint "EventClockWorkbenchLaw" pvTb 60 aL_constraint := by
  refine pvCaOk_i fun ix n b ci co C h => ?_
  unfold aL_constraint at h
  split at h
  · cases h; exact pvCe_V (k := 4) (T := TX9) (N := 11) (metX9_constraint hf) rfl wd_1_1 rfl wd_3_91 wd_3_92 wd_3_93 pnX9_constraint rfl wd_3_94
  · cases h
set_option maxRecDepth 100000 in
theorem chL_constraint : ∀ pc, pvChain cL_constraint pc (bL_constraint pc) := by
  intro pc
  unfold bL_constraint
  split <;> first | exact True.intro | exact pvChain_of (by decide +kernel)
theorem shL_constraint {as : List pvV} {z : pvM} {Q : pvO → pvM → Prop} (h : C_X9_constraint as z Q) : ∃ v1 v2 v3 v4 : Int, as = [vR 0, vI v1, vI v2, vI v3, vI v4] := by
  unfold C_X9_constraint at h
  split at h
  · obtain ⟨rfl, -⟩ := h
    exact ⟨_, _, _, _, rfl⟩
  · exact h.elim
set_option maxRecDepth 100000 in
set_option maxHeartbeats 4000000 in
theorem owL_constraint : ∀ as z Q, C_L_constraint as z Q → pvOkS as → pvCs as ≤ 7 ∧ ∃ (a9 rest st9 : List pvV) (Q0 : pvO → pvM → Prop), pvPop 5 st9 [] = some (a9, rest) ∧ pvCs rest ≤ 8 ∧ pvRecv 60 8 a9 ∧ C_X9_constraint a9 z Q0 ∧
      pvB 60 (0, fun _ => 0) fL aL_constraint kL pvEx0 1 (fun pc ls' st z' g => pc = 9 ∧ ls' = pvEn as 7 ∧ st = st9 ∧ z' = z ∧ g = 0) (fun _ _ _ => False) (fun _ _ _ _ => False) (bL_constraint 0) 0 (pvEn as 7) [] z 0 ∧
      (∀ v z', Q0 (.inl v) z' → (∀ x, v = some x → pvOk x) → pvB 60 (0, fun _ => 0) fL aL_constraint kL pvEx0 1 (pvX 60 (0, fun _ => 0) fL aL_constraint kL pvEx0 1 (pvRt (some .int) Q) (fun _ _ _ _ => False) bL_constraint (fun _ => none) (fun _ _ _ _ => False) 9) (pvRt (some .int) Q) (fun _ _ _ _ => False) (bL_constraint (9 + 3)) (9 + 3) (pvEn as 7) (pvPush v rest) z' 0) ∧
      (∀ k z', Q0 (.inr k) z' → k ∈ [0] ∧ Q (.inl (some (vI (hfF [0] k)))) z') := by
  intro as z Q h hS
  unfold C_L_constraint at h
  split at h
  · obtain ⟨rfl, h⟩ := h
    have e := shL_constraint h
    obtain ⟨v1, v2, v3, v4, e⟩ := e
    cases e
    refine ⟨Nat.le_of_ble_eq_true rfl, [vR 0, vI v1, vI v2, vI v3, vI v4], [vI 0, vR 58], [vI v4, vI v3, vI v2, vI v1, vR 0, vI 0, vR 58], wrI [0] Q, rfl, Nat.le_of_ble_eq_true rfl, ⟨rfl, by decide⟩, h, ?_, fun v z' hq hok => ?_, fun k z' hq => hq⟩
    · simp only [bL_constraint_0, bL_constraint_9, bL_constraint_12, bL_constraint_21, pvE_aload, pvLA_s, pvLd, pvE_iconst, pvE_aload_n0, pvE_iload_n1, pvLI_s, pvE_iload_n2, pvE_iload_n3, pvE_iload, pvE_invokevirtual, pvC1_s, pvC2_s, pvAf_v, pvAf_x, pvPop, pvCs, pvCat, pvPush, pvSh_0, pvSh_58, pvSh_59, pvE_i2l, pvE_lastore, pvAL, pvE_goto, pvE_astore, pvS1, List.length_cons, List.length_nil, pvClr_i, pvClr_r, pvClr_l, pvClr_d, pvClr_f, pvClr_n, pvE_ireturn, pvRecv_r, pvUp_nl, pvUp_same, pvUp_ap, pvSt_ap, pvX_c, pvX_ms, pvX_mn, pvE_nil, pvEn_i, pvEn_r, pvEn_l, pvEn_0, pvEn_s, pvRt, pvRv, pvTh, pvKc, pvGo, pvTgt, Int.toNat_natCast, false_and, and_false, true_and, and_true, if_true, if_false, reduceIte, reduceCtorEq, forall_const, false_or, or_false, true_or, or_true, ne_eq, not_true_eq_false, not_false_eq_true, implies_true, false_implies, Nat.reduceAdd, Nat.reduceSub, Nat.reduceMul, Nat.reduceEqDiff, Nat.reduceLT, Nat.reduceLeDiff, Int.reduceAdd, Int.reduceSub, Int.reduceMul, Int.reduceNeg, Int.reduceToNat, Int.reduceLE, Int.reduceLT, Int.reduceEq, Int.reduceNe, and_self, pvPush]
      (repeat' first | with_reducible apply And.intro | with_reducible intro _)
      all_goals first
        | omega
        | rfl
        | trivial
    rcases v with _ | (a | a | a | a | a)
    · exact hq.elim
    · simp only [wrI] at hq
      simp only [bL_constraint_0, bL_constraint_9, bL_constraint_12, bL_constraint_21, pvE_aload, pvLA_s, pvLd, pvE_iconst, pvE_aload_n0, pvE_iload_n1, pvLI_s, pvE_iload_n2, pvE_iload_n3, pvE_iload, pvE_invokevirtual, pvC1_s, pvC2_s, pvAf_v, pvAf_x, pvPop, pvCs, pvCat, pvPush, pvSh_0, pvSh_58, pvSh_59, pvE_i2l, pvE_lastore, pvAL, pvE_goto, pvE_astore, pvS1, List.length_cons, List.length_nil, pvClr_i, pvClr_r, pvClr_l, pvClr_d, pvClr_f, pvClr_n, pvE_ireturn, pvRecv_r, pvUp_nl, pvUp_same, pvUp_ap, pvSt_ap, pvX_c, pvX_ms, pvX_mn, pvE_nil, pvEn_i, pvEn_r, pvEn_l, pvEn_0, pvEn_s, pvRt, pvRv, pvTh, pvKc, pvGo, pvTgt, Int.toNat_natCast, false_and, and_false, true_and, and_true, if_true, if_false, reduceIte, reduceCtorEq, forall_const, false_or, or_false, true_or, or_true, ne_eq, not_true_eq_false, not_false_eq_true, implies_true, false_implies, Nat.reduceAdd, Nat.reduceSub, Nat.reduceMul, Nat.reduceEqDiff, Nat.reduceLT, Nat.reduceLeDiff, Int.reduceAdd, Int.reduceSub, Int.reduceMul, Int.reduceNeg, Int.reduceToNat, Int.reduceLE, Int.reduceLT, Int.reduceEq, Int.reduceNe, and_self, pvPush]
      (repeat' first | with_reducible apply And.intro | with_reducible intro _)
      all_goals first
        | omega
        | exact Or.inl rfl
        | exact hq (hok _ rfl)
    · exact hq.elim
    · exact hq.elim
    · exact hq.elim
    · exact hq.elim
  · exact h.elim
theorem hdL_constraint : ∀ i (x : Nat × Nat × Nat × Nat) (k : Nat), ([(0, 14, 17, 21)] : List (Nat × Nat × Nat × Nat))[i]? = some x → ([0] : List Nat)[i]? = some k → (x.1 ≤ 9 ∧ 9 < x.2.1 ∧ x.2.2.2 ≠ 0 ∧ pvHd cL_constraint 7 x.2.2.1 i) ∧ Cond.classLink "EventClockWorkbenchLaw" x.2.2.2 (pvXn k) ∈ pvTb := by
  intro i x k h1 h2
  match i, h1, h2 with
  | 0, h1, h2 => cases h1; cases h2; exact ⟨⟨by decide, by decide, by decide, ⟨6, by decide, Or.inr ⟨by decide +kernel, by decide +kernel, by decide +kernel⟩⟩⟩, wd_2_137⟩
  | n + 1, h1, h2 => simp at h1
theorem metWL_constraint {l : Launch} (hf : l.stackTraces = false) : pvMetW l yL_constraint (Cond.codeWith yL_constraint cL_constraint 7 (some .int) [(0, 14, 17, 21)] :: pvTb) mL_constraint C_L_constraint :=
  pvMetW_of (y := yL_constraint) 48 5 9 [0] plL coL foL (caL_constraint hf) rfl ⟨rfl, rfl⟩ chL_constraint (by decide +kernel) rfl (by decide) (by decide) (by decide) hdL_constraint owL_constraint
def bL_satisfyingValuations : Nat → List (Instr × Nat)
  | 0 => [(.aload_n 3, 1), (.iconst 0, 1), (.aload_n 0, 1), (.iload_n 1, 1), (.iload_n 2, 1)]
  | 5 => [(.invokevirtual 51, 3)]
  | 8 => [(.i2l, 1), (.lastore, 1), (.goto 7, 3)]
  | 17 => [(.iconst 0, 1), (.ireturn, 1)]
  | _ => []
theorem bL_satisfyingValuations_0 : bL_satisfyingValuations 0 = [(.aload_n 3, 1), (.iconst 0, 1), (.aload_n 0, 1), (.iload_n 1, 1), (.iload_n 2, 1)] := rfl
theorem bL_satisfyingValuations_5 : bL_satisfyingValuations 5 = [(.invokevirtual 51, 3)] := rfl
theorem bL_satisfyingValuations_8 : bL_satisfyingValuations 8 = [(.i2l, 1), (.lastore, 1), (.goto 7, 3)] := rfl
theorem bL_satisfyingValuations_17 : bL_satisfyingValuations 17 = [(.iconst 0, 1), (.ireturn, 1)] := rfl
def aL_satisfyingValuations : pvCa
  | 51 => some (3, false, 8, 0, C_X9_satisfyingValuations)
  | _ => none
def mL_satisfyingValuations : Room := { frames := 9, cells := 1, slots := 6, locals := 146 }
theorem pnL_satisfyingValuations : pvPn yL_satisfyingValuations = some 4 := by decide +kernel
theorem caL_satisfyingValuations {l : Launch} (hf : l.stackTraces = false) : pvCaOk l mL_satisfyingValuations "EventClockWorkbenchLaw" pvTb 60 aL_satisfyingValuations := by
  refine pvCaOk_i fun ix n b ci co C h => ?_
  unfold aL_satisfyingValuations at h
  split at h
  · cases h; exact pvCe_V (k := 2) (T := TX9) (N := 11) (metX9_satisfyingValuations hf) rfl wd_1_1 rfl wd_3_103 wd_3_104 wd_3_105 pnX9_satisfyingValuations rfl wd_3_106
  · cases h
set_option maxRecDepth 100000 in
theorem chL_satisfyingValuations : ∀ pc, pvChain cL_satisfyingValuations pc (bL_satisfyingValuations pc) := by
  intro pc
  unfold bL_satisfyingValuations
  split <;> first | exact True.intro | exact pvChain_of (by decide +kernel)
theorem shL_satisfyingValuations {as : List pvV} {z : pvM} {Q : pvO → pvM → Prop} (h : C_X9_satisfyingValuations as z Q) : ∃ v1 v2 : Int, as = [vR 0, vI v1, vI v2] := by
  unfold C_X9_satisfyingValuations at h
  split at h
  · obtain ⟨rfl, -⟩ := h
    exact ⟨_, _, rfl⟩
  · exact h.elim
set_option maxRecDepth 100000 in
set_option maxHeartbeats 4000000 in
theorem owL_satisfyingValuations : ∀ as z Q, C_L_satisfyingValuations as z Q → pvOkS as → pvCs as ≤ 5 ∧ ∃ (a9 rest st9 : List pvV) (Q0 : pvO → pvM → Prop), pvPop 3 st9 [] = some (a9, rest) ∧ pvCs rest ≤ 8 ∧ pvRecv 60 8 a9 ∧ C_X9_satisfyingValuations a9 z Q0 ∧
      pvB 60 (0, fun _ => 0) fL aL_satisfyingValuations kL pvEx0 1 (fun pc ls' st z' g => pc = 5 ∧ ls' = pvEn as 5 ∧ st = st9 ∧ z' = z ∧ g = 0) (fun _ _ _ => False) (fun _ _ _ _ => False) (bL_satisfyingValuations 0) 0 (pvEn as 5) [] z 0 ∧
      (∀ v z', Q0 (.inl v) z' → (∀ x, v = some x → pvOk x) → pvB 60 (0, fun _ => 0) fL aL_satisfyingValuations kL pvEx0 1 (pvX 60 (0, fun _ => 0) fL aL_satisfyingValuations kL pvEx0 1 (pvRt (some .int) Q) (fun _ _ _ _ => False) bL_satisfyingValuations (fun _ => none) (fun _ _ _ _ => False) 9) (pvRt (some .int) Q) (fun _ _ _ _ => False) (bL_satisfyingValuations (5 + 3)) (5 + 3) (pvEn as 5) (pvPush v rest) z' 0) ∧
      (∀ k z', Q0 (.inr k) z' → k ∈ [0] ∧ Q (.inl (some (vI (hfF [0] k)))) z') := by
  intro as z Q h hS
  unfold C_L_satisfyingValuations at h
  split at h
  · obtain ⟨rfl, h⟩ := h
    have e := shL_satisfyingValuations h
    obtain ⟨v1, v2, e⟩ := e
    cases e
    refine ⟨Nat.le_of_ble_eq_true rfl, [vR 0, vI v1, vI v2], [vI 0, vR 58], [vI v2, vI v1, vR 0, vI 0, vR 58], wrI [0] Q, rfl, Nat.le_of_ble_eq_true rfl, ⟨rfl, by decide⟩, h, ?_, fun v z' hq hok => ?_, fun k z' hq => hq⟩
    · simp only [bL_satisfyingValuations_0, bL_satisfyingValuations_5, bL_satisfyingValuations_8, bL_satisfyingValuations_17, pvE_aload_n3, pvLA_s, pvLd, pvE_iconst, pvE_aload_n0, pvE_iload_n1, pvLI_s, pvE_iload_n2, pvE_invokevirtual, pvC1_s, pvC2_s, pvAf_v, pvAf_x, pvPop, pvCs, pvCat, pvPush, pvSh_0, pvSh_58, pvSh_59, pvE_i2l, pvE_lastore, pvAL, pvE_goto, pvE_astore, pvS1, List.length_cons, List.length_nil, pvClr_i, pvClr_r, pvClr_l, pvClr_d, pvClr_f, pvClr_n, pvE_ireturn, pvRecv_r, pvUp_nl, pvUp_same, pvUp_ap, pvSt_ap, pvX_c, pvX_ms, pvX_mn, pvE_nil, pvEn_i, pvEn_r, pvEn_l, pvEn_0, pvEn_s, pvRt, pvRv, pvTh, pvKc, pvGo, pvTgt, Int.toNat_natCast, false_and, and_false, true_and, and_true, if_true, if_false, reduceIte, reduceCtorEq, forall_const, false_or, or_false, true_or, or_true, ne_eq, not_true_eq_false, not_false_eq_true, implies_true, false_implies, Nat.reduceAdd, Nat.reduceSub, Nat.reduceMul, Nat.reduceEqDiff, Nat.reduceLT, Nat.reduceLeDiff, Int.reduceAdd, Int.reduceSub, Int.reduceMul, Int.reduceNeg, Int.reduceToNat, Int.reduceLE, Int.reduceLT, Int.reduceEq, Int.reduceNe, and_self, pvPush]
      (repeat' first | with_reducible apply And.intro | with_reducible intro _)
      all_goals first
        | omega
        | rfl
        | trivial
    rcases v with _ | (a | a | a | a | a)
    · exact hq.elim
    · simp only [wrI] at hq
      simp only [bL_satisfyingValuations_0, bL_satisfyingValuations_5, bL_satisfyingValuations_8, bL_satisfyingValuations_17, pvE_aload_n3, pvLA_s, pvLd, pvE_iconst, pvE_aload_n0, pvE_iload_n1, pvLI_s, pvE_iload_n2, pvE_invokevirtual, pvC1_s, pvC2_s, pvAf_v, pvAf_x, pvPop, pvCs, pvCat, pvPush, pvSh_0, pvSh_58, pvSh_59, pvE_i2l, pvE_lastore, pvAL, pvE_goto, pvE_astore, pvS1, List.length_cons, List.length_nil, pvClr_i, pvClr_r, pvClr_l, pvClr_d, pvClr_f, pvClr_n, pvE_ireturn, pvRecv_r, pvUp_nl, pvUp_same, pvUp_ap, pvSt_ap, pvX_c, pvX_ms, pvX_mn, pvE_nil, pvEn_i, pvEn_r, pvEn_l, pvEn_0, pvEn_s, pvRt, pvRv, pvTh, pvKc, pvGo, pvTgt, Int.toNat_natCast, false_and, and_false, true_and, and_true, if_true, if_false, reduceIte, reduceCtorEq, forall_const, false_or, or_false, true_or, or_true, ne_eq, not_true_eq_false, not_false_eq_true, implies_true, false_implies, Nat.reduceAdd, Nat.reduceSub, Nat.reduceMul, Nat.reduceEqDiff, Nat.reduceLT, Nat.reduceLeDiff, Int.reduceAdd, Int.reduceSub, Int.reduceMul, Int.reduceNeg, Int.reduceToNat, Int.reduceLE, Int.reduceLT, Int.reduceEq, Int.reduceNe, and_self, pvPush]
      (repeat' first | with_reducible apply And.intro | with_reducible intro _)
      all_goals first
        | omega
        | exact Or.inl rfl
        | exact hq (hok _ rfl)
    · exact hq.elim
    · exact hq.elim
    · exact hq.elim
    · exact hq.elim
  · exact h.elim
theorem hdL_satisfyingValuations : ∀ i (x : Nat × Nat × Nat × Nat) (k : Nat), ([(0, 10, 13, 21)] : List (Nat × Nat × Nat × Nat))[i]? = some x → ([0] : List Nat)[i]? = some k → (x.1 ≤ 5 ∧ 5 < x.2.1 ∧ x.2.2.2 ≠ 0 ∧ pvHd cL_satisfyingValuations 5 x.2.2.1 i) ∧ Cond.classLink "EventClockWorkbenchLaw" x.2.2.2 (pvXn k) ∈ pvTb := by
  intro i x k h1 h2
  match i, h1, h2 with
  | 0, h1, h2 => cases h1; cases h2; exact ⟨⟨by decide, by decide, by decide, ⟨4, by decide, Or.inr ⟨by decide +kernel, by decide +kernel, by decide +kernel⟩⟩⟩, wd_2_137⟩
  | n + 1, h1, h2 => simp at h1
theorem metWL_satisfyingValuations {l : Launch} (hf : l.stackTraces = false) : pvMetW l yL_satisfyingValuations (Cond.codeWith yL_satisfyingValuations cL_satisfyingValuations 5 (some .int) [(0, 10, 13, 21)] :: pvTb) mL_satisfyingValuations C_L_satisfyingValuations :=
  pvMetW_of (y := yL_satisfyingValuations) 51 3 5 [0] plL coL foL (caL_satisfyingValuations hf) rfl ⟨rfl, rfl⟩ chL_satisfyingValuations (by decide +kernel) rfl (by decide) (by decide) (by decide) hdL_satisfyingValuations owL_satisfyingValuations
def bL_appendEvent : Nat → List (Instr × Nat)
  | 0 => [(.aload_n 3, 1), (.iconst 0, 1), (.aload_n 0, 1), (.iload_n 1, 1), (.iload_n 2, 1)]
  | 5 => [(.invokevirtual 54, 3)]
  | 8 => [(.i2l, 1), (.lastore, 1), (.goto 11, 3)]
  | 21 => [(.iconst 0, 1), (.ireturn, 1)]
  | _ => []
theorem bL_appendEvent_0 : bL_appendEvent 0 = [(.aload_n 3, 1), (.iconst 0, 1), (.aload_n 0, 1), (.iload_n 1, 1), (.iload_n 2, 1)] := rfl
theorem bL_appendEvent_5 : bL_appendEvent 5 = [(.invokevirtual 54, 3)] := rfl
theorem bL_appendEvent_8 : bL_appendEvent 8 = [(.i2l, 1), (.lastore, 1), (.goto 11, 3)] := rfl
theorem bL_appendEvent_21 : bL_appendEvent 21 = [(.iconst 0, 1), (.ireturn, 1)] := rfl
def aL_appendEvent : pvCa
  | 54 => some (3, false, 8, 0, C_X9_appendEvent)
  | _ => none
def mL_appendEvent : Room := { frames := 8, cells := 1, slots := 6, locals := 123 }
theorem pnL_appendEvent : pvPn yL_appendEvent = some 4 := by decide +kernel
theorem caL_appendEvent {l : Launch} (hf : l.stackTraces = false) : pvCaOk l mL_appendEvent "EventClockWorkbenchLaw" pvTb 60 aL_appendEvent := by
  refine pvCaOk_i fun ix n b ci co C h => ?_
  unfold aL_appendEvent at h
  split at h
  · cases h; exact pvCe_V (k := 2) (T := TX9) (N := 11) (metX9_appendEvent hf) rfl wd_1_1 rfl wd_3_123 wd_3_124 wd_3_125 pnX9_appendEvent rfl wd_3_126
  · cases h
set_option maxRecDepth 100000 in
theorem chL_appendEvent : ∀ pc, pvChain cL_appendEvent pc (bL_appendEvent pc) := by
  intro pc
  unfold bL_appendEvent
  split <;> first | exact True.intro | exact pvChain_of (by decide +kernel)
theorem shL_appendEvent {as : List pvV} {z : pvM} {Q : pvO → pvM → Prop} (h : C_X9_appendEvent as z Q) : ∃ v1 v2 : Int, as = [vR 0, vI v1, vI v2] := by
  unfold C_X9_appendEvent at h
  split at h
  · obtain ⟨rfl, -⟩ := h
    exact ⟨_, _, rfl⟩
  · exact h.elim
set_option maxRecDepth 100000 in
set_option maxHeartbeats 4000000 in
theorem owL_appendEvent : ∀ as z Q, C_L_appendEvent as z Q → pvOkS as → pvCs as ≤ 5 ∧ ∃ (a9 rest st9 : List pvV) (Q0 : pvO → pvM → Prop), pvPop 3 st9 [] = some (a9, rest) ∧ pvCs rest ≤ 8 ∧ pvRecv 60 8 a9 ∧ C_X9_appendEvent a9 z Q0 ∧
      pvB 60 (0, fun _ => 0) fL aL_appendEvent kL pvEx0 1 (fun pc ls' st z' g => pc = 5 ∧ ls' = pvEn as 5 ∧ st = st9 ∧ z' = z ∧ g = 0) (fun _ _ _ => False) (fun _ _ _ _ => False) (bL_appendEvent 0) 0 (pvEn as 5) [] z 0 ∧
      (∀ v z', Q0 (.inl v) z' → (∀ x, v = some x → pvOk x) → pvB 60 (0, fun _ => 0) fL aL_appendEvent kL pvEx0 1 (pvX 60 (0, fun _ => 0) fL aL_appendEvent kL pvEx0 1 (pvRt (some .int) Q) (fun _ _ _ _ => False) bL_appendEvent (fun _ => none) (fun _ _ _ _ => False) 9) (pvRt (some .int) Q) (fun _ _ _ _ => False) (bL_appendEvent (5 + 3)) (5 + 3) (pvEn as 5) (pvPush v rest) z' 0) ∧
      (∀ k z', Q0 (.inr k) z' → k ∈ [1, 2] ∧ Q (.inl (some (vI (hfF [1, 2] k)))) z') := by
  intro as z Q h hS
  unfold C_L_appendEvent at h
  split at h
  · obtain ⟨rfl, h⟩ := h
    have e := shL_appendEvent h
    obtain ⟨v1, v2, e⟩ := e
    cases e
    refine ⟨Nat.le_of_ble_eq_true rfl, [vR 0, vI v1, vI v2], [vI 0, vR 58], [vI v2, vI v1, vR 0, vI 0, vR 58], wrI [1, 2] Q, rfl, Nat.le_of_ble_eq_true rfl, ⟨rfl, by decide⟩, h, ?_, fun v z' hq hok => ?_, fun k z' hq => hq⟩
    · simp only [bL_appendEvent_0, bL_appendEvent_5, bL_appendEvent_8, bL_appendEvent_21, pvE_aload_n3, pvLA_s, pvLd, pvE_iconst, pvE_aload_n0, pvE_iload_n1, pvLI_s, pvE_iload_n2, pvE_invokevirtual, pvC1_s, pvC2_s, pvAf_v, pvAf_x, pvPop, pvCs, pvCat, pvPush, pvSh_0, pvSh_58, pvSh_59, pvE_i2l, pvE_lastore, pvAL, pvE_goto, pvE_astore, pvS1, List.length_cons, List.length_nil, pvClr_i, pvClr_r, pvClr_l, pvClr_d, pvClr_f, pvClr_n, pvE_ireturn, pvRecv_r, pvUp_nl, pvUp_same, pvUp_ap, pvSt_ap, pvX_c, pvX_ms, pvX_mn, pvE_nil, pvEn_i, pvEn_r, pvEn_l, pvEn_0, pvEn_s, pvRt, pvRv, pvTh, pvKc, pvGo, pvTgt, Int.toNat_natCast, false_and, and_false, true_and, and_true, if_true, if_false, reduceIte, reduceCtorEq, forall_const, false_or, or_false, true_or, or_true, ne_eq, not_true_eq_false, not_false_eq_true, implies_true, false_implies, Nat.reduceAdd, Nat.reduceSub, Nat.reduceMul, Nat.reduceEqDiff, Nat.reduceLT, Nat.reduceLeDiff, Int.reduceAdd, Int.reduceSub, Int.reduceMul, Int.reduceNeg, Int.reduceToNat, Int.reduceLE, Int.reduceLT, Int.reduceEq, Int.reduceNe, and_self, pvPush]
      (repeat' first | with_reducible apply And.intro | with_reducible intro _)
      all_goals first
        | omega
        | rfl
        | trivial
    rcases v with _ | (a | a | a | a | a)
    · exact hq.elim
    · simp only [wrI] at hq
      simp only [bL_appendEvent_0, bL_appendEvent_5, bL_appendEvent_8, bL_appendEvent_21, pvE_aload_n3, pvLA_s, pvLd, pvE_iconst, pvE_aload_n0, pvE_iload_n1, pvLI_s, pvE_iload_n2, pvE_invokevirtual, pvC1_s, pvC2_s, pvAf_v, pvAf_x, pvPop, pvCs, pvCat, pvPush, pvSh_0, pvSh_58, pvSh_59, pvE_i2l, pvE_lastore, pvAL, pvE_goto, pvE_astore, pvS1, List.length_cons, List.length_nil, pvClr_i, pvClr_r, pvClr_l, pvClr_d, pvClr_f, pvClr_n, pvE_ireturn, pvRecv_r, pvUp_nl, pvUp_same, pvUp_ap, pvSt_ap, pvX_c, pvX_ms, pvX_mn, pvE_nil, pvEn_i, pvEn_r, pvEn_l, pvEn_0, pvEn_s, pvRt, pvRv, pvTh, pvKc, pvGo, pvTgt, Int.toNat_natCast, false_and, and_false, true_and, and_true, if_true, if_false, reduceIte, reduceCtorEq, forall_const, false_or, or_false, true_or, or_true, ne_eq, not_true_eq_false, not_false_eq_true, implies_true, false_implies, Nat.reduceAdd, Nat.reduceSub, Nat.reduceMul, Nat.reduceEqDiff, Nat.reduceLT, Nat.reduceLeDiff, Int.reduceAdd, Int.reduceSub, Int.reduceMul, Int.reduceNeg, Int.reduceToNat, Int.reduceLE, Int.reduceLT, Int.reduceEq, Int.reduceNe, and_self, pvPush]
      (repeat' first | with_reducible apply And.intro | with_reducible intro _)
      all_goals first
        | omega
        | exact Or.inl rfl
        | exact hq (hok _ rfl)
    · exact hq.elim
    · exact hq.elim
    · exact hq.elim
    · exact hq.elim
  · exact h.elim
theorem hdL_appendEvent : ∀ i (x : Nat × Nat × Nat × Nat) (k : Nat), ([(0, 10, 13, 13), (0, 10, 17, 15)] : List (Nat × Nat × Nat × Nat))[i]? = some x → ([1, 2] : List Nat)[i]? = some k → (x.1 ≤ 5 ∧ 5 < x.2.1 ∧ x.2.2.2 ≠ 0 ∧ pvHd cL_appendEvent 5 x.2.2.1 i) ∧ Cond.classLink "EventClockWorkbenchLaw" x.2.2.2 (pvXn k) ∈ pvTb := by
  intro i x k h1 h2
  match i, h1, h2 with
  | 0, h1, h2 => cases h1; cases h2; exact ⟨⟨by decide, by decide, by decide, ⟨4, by decide, Or.inr ⟨by decide +kernel, by decide +kernel, by decide +kernel⟩⟩⟩, wd_2_31⟩
  | 1, h1, h2 => cases h1; cases h2; exact ⟨⟨by decide, by decide, by decide, ⟨4, by decide, Or.inr ⟨by decide +kernel, by decide +kernel, by decide +kernel⟩⟩⟩, wd_2_32⟩
  | n + 2, h1, h2 => simp at h1
theorem metWL_appendEvent {l : Launch} (hf : l.stackTraces = false) : pvMetW l yL_appendEvent (Cond.codeWith yL_appendEvent cL_appendEvent 5 (some .int) [(0, 10, 13, 13), (0, 10, 17, 15)] :: pvTb) mL_appendEvent C_L_appendEvent :=
  pvMetW_of (y := yL_appendEvent) 54 3 5 [1, 2] plL coL foL (caL_appendEvent hf) rfl ⟨rfl, rfl⟩ chL_appendEvent (by decide +kernel) rfl (by decide) (by decide) (by decide) hdL_appendEvent owL_appendEvent
def bL_event : Nat → List (Instr × Nat)
  | 0 => [(.aload_n 3, 1), (.iconst 0, 1), (.aload_n 0, 1), (.iload_n 1, 1), (.iload_n 2, 1)]
  | 5 => [(.invokevirtual 57, 3)]
  | 8 => [(.i2l, 1), (.lastore, 1), (.goto 7, 3)]
  | 17 => [(.iconst 0, 1), (.ireturn, 1)]
  | _ => []
theorem bL_event_0 : bL_event 0 = [(.aload_n 3, 1), (.iconst 0, 1), (.aload_n 0, 1), (.iload_n 1, 1), (.iload_n 2, 1)] := rfl
theorem bL_event_5 : bL_event 5 = [(.invokevirtual 57, 3)] := rfl
theorem bL_event_8 : bL_event 8 = [(.i2l, 1), (.lastore, 1), (.goto 7, 3)] := rfl
theorem bL_event_17 : bL_event 17 = [(.iconst 0, 1), (.ireturn, 1)] := rfl
def aL_event : pvCa
  | 57 => some (3, false, 8, 0, C_X9_event)
  | _ => none
def mL_event : Room := { frames := 8, cells := 1, slots := 6, locals := 124 }
theorem pnL_event : pvPn yL_event = some 4 := by decide +kernel
theorem caL_event {l : Launch} (hf : l.stackTraces = false) : pvCaOk l mL_event "EventClockWorkbenchLaw" pvTb 60 aL_event := by
  refine pvCaOk_i fun ix n b ci co C h => ?_
  unfold aL_event at h
  split at h
  · cases h; exact pvCe_V (k := 2) (T := TX9) (N := 11) (metX9_event hf) rfl wd_1_1 rfl wd_3_144 wd_3_145 wd_3_146 pnX9_event rfl wd_3_147
  · cases h
set_option maxRecDepth 100000 in
theorem chL_event : ∀ pc, pvChain cL_event pc (bL_event pc) := by
  intro pc
  unfold bL_event
  split <;> first | exact True.intro | exact pvChain_of (by decide +kernel)
theorem shL_event {as : List pvV} {z : pvM} {Q : pvO → pvM → Prop} (h : C_X9_event as z Q) : ∃ v1 v2 : Int, as = [vR 0, vI v1, vI v2] := by
  unfold C_X9_event at h
  split at h
  · obtain ⟨rfl, -⟩ := h
    exact ⟨_, _, rfl⟩
  · exact h.elim
set_option maxRecDepth 100000 in
set_option maxHeartbeats 4000000 in
theorem owL_event : ∀ as z Q, C_L_event as z Q → pvOkS as → pvCs as ≤ 5 ∧ ∃ (a9 rest st9 : List pvV) (Q0 : pvO → pvM → Prop), pvPop 3 st9 [] = some (a9, rest) ∧ pvCs rest ≤ 8 ∧ pvRecv 60 8 a9 ∧ C_X9_event a9 z Q0 ∧
      pvB 60 (0, fun _ => 0) fL aL_event kL pvEx0 1 (fun pc ls' st z' g => pc = 5 ∧ ls' = pvEn as 5 ∧ st = st9 ∧ z' = z ∧ g = 0) (fun _ _ _ => False) (fun _ _ _ _ => False) (bL_event 0) 0 (pvEn as 5) [] z 0 ∧
      (∀ v z', Q0 (.inl v) z' → (∀ x, v = some x → pvOk x) → pvB 60 (0, fun _ => 0) fL aL_event kL pvEx0 1 (pvX 60 (0, fun _ => 0) fL aL_event kL pvEx0 1 (pvRt (some .int) Q) (fun _ _ _ _ => False) bL_event (fun _ => none) (fun _ _ _ _ => False) 9) (pvRt (some .int) Q) (fun _ _ _ _ => False) (bL_event (5 + 3)) (5 + 3) (pvEn as 5) (pvPush v rest) z' 0) ∧
      (∀ k z', Q0 (.inr k) z' → k ∈ [0] ∧ Q (.inl (some (vI (hfF [0] k)))) z') := by
  intro as z Q h hS
  unfold C_L_event at h
  split at h
  · obtain ⟨rfl, h⟩ := h
    have e := shL_event h
    obtain ⟨v1, v2, e⟩ := e
    cases e
    refine ⟨Nat.le_of_ble_eq_true rfl, [vR 0, vI v1, vI v2], [vI 0, vR 58], [vI v2, vI v1, vR 0, vI 0, vR 58], wrI [0] Q, rfl, Nat.le_of_ble_eq_true rfl, ⟨rfl, by decide⟩, h, ?_, fun v z' hq hok => ?_, fun k z' hq => hq⟩
    · simp only [bL_event_0, bL_event_5, bL_event_8, bL_event_17, pvE_aload_n3, pvLA_s, pvLd, pvE_iconst, pvE_aload_n0, pvE_iload_n1, pvLI_s, pvE_iload_n2, pvE_invokevirtual, pvC1_s, pvC2_s, pvAf_v, pvAf_x, pvPop, pvCs, pvCat, pvPush, pvSh_0, pvSh_58, pvSh_59, pvE_i2l, pvE_lastore, pvAL, pvE_goto, pvE_astore, pvS1, List.length_cons, List.length_nil, pvClr_i, pvClr_r, pvClr_l, pvClr_d, pvClr_f, pvClr_n, pvE_ireturn, pvRecv_r, pvUp_nl, pvUp_same, pvUp_ap, pvSt_ap, pvX_c, pvX_ms, pvX_mn, pvE_nil, pvEn_i, pvEn_r, pvEn_l, pvEn_0, pvEn_s, pvRt, pvRv, pvTh, pvKc, pvGo, pvTgt, Int.toNat_natCast, false_and, and_false, true_and, and_true, if_true, if_false, reduceIte, reduceCtorEq, forall_const, false_or, or_false, true_or, or_true, ne_eq, not_true_eq_false, not_false_eq_true, implies_true, false_implies, Nat.reduceAdd, Nat.reduceSub, Nat.reduceMul, Nat.reduceEqDiff, Nat.reduceLT, Nat.reduceLeDiff, Int.reduceAdd, Int.reduceSub, Int.reduceMul, Int.reduceNeg, Int.reduceToNat, Int.reduceLE, Int.reduceLT, Int.reduceEq, Int.reduceNe, and_self, pvPush]
      (repeat' first | with_reducible apply And.intro | with_reducible intro _)
      all_goals first
        | omega
        | rfl
        | trivial
    rcases v with _ | (a | a | a | a | a)
    · exact hq.elim
    · simp only [wrI] at hq
      simp only [bL_event_0, bL_event_5, bL_event_8, bL_event_17, pvE_aload_n3, pvLA_s, pvLd, pvE_iconst, pvE_aload_n0, pvE_iload_n1, pvLI_s, pvE_iload_n2, pvE_invokevirtual, pvC1_s, pvC2_s, pvAf_v, pvAf_x, pvPop, pvCs, pvCat, pvPush, pvSh_0, pvSh_58, pvSh_59, pvE_i2l, pvE_lastore, pvAL, pvE_goto, pvE_astore, pvS1, List.length_cons, List.length_nil, pvClr_i, pvClr_r, pvClr_l, pvClr_d, pvClr_f, pvClr_n, pvE_ireturn, pvRecv_r, pvUp_nl, pvUp_same, pvUp_ap, pvSt_ap, pvX_c, pvX_ms, pvX_mn, pvE_nil, pvEn_i, pvEn_r, pvEn_l, pvEn_0, pvEn_s, pvRt, pvRv, pvTh, pvKc, pvGo, pvTgt, Int.toNat_natCast, false_and, and_false, true_and, and_true, if_true, if_false, reduceIte, reduceCtorEq, forall_const, false_or, or_false, true_or, or_true, ne_eq, not_true_eq_false, not_false_eq_true, implies_true, false_implies, Nat.reduceAdd, Nat.reduceSub, Nat.reduceMul, Nat.reduceEqDiff, Nat.reduceLT, Nat.reduceLeDiff, Int.reduceAdd, Int.reduceSub, Int.reduceMul, Int.reduceNeg, Int.reduceToNat, Int.reduceLE, Int.reduceLT, Int.reduceEq, Int.reduceNe, and_self, pvPush]
      (repeat' first | with_reducible apply And.intro | with_reducible intro _)
      all_goals first
        | omega
        | exact Or.inl rfl
        | exact hq (hok _ rfl)
    · exact hq.elim
    · exact hq.elim
    · exact hq.elim
    · exact hq.elim
  · exact h.elim
theorem hdL_event : ∀ i (x : Nat × Nat × Nat × Nat) (k : Nat), ([(0, 10, 13, 21)] : List (Nat × Nat × Nat × Nat))[i]? = some x → ([0] : List Nat)[i]? = some k → (x.1 ≤ 5 ∧ 5 < x.2.1 ∧ x.2.2.2 ≠ 0 ∧ pvHd cL_event 5 x.2.2.1 i) ∧ Cond.classLink "EventClockWorkbenchLaw" x.2.2.2 (pvXn k) ∈ pvTb := by
  intro i x k h1 h2
  match i, h1, h2 with
  | 0, h1, h2 => cases h1; cases h2; exact ⟨⟨by decide, by decide, by decide, ⟨4, by decide, Or.inr ⟨by decide +kernel, by decide +kernel, by decide +kernel⟩⟩⟩, wd_2_137⟩
  | n + 1, h1, h2 => simp at h1
theorem metWL_event {l : Launch} (hf : l.stackTraces = false) : pvMetW l yL_event (Cond.codeWith yL_event cL_event 5 (some .int) [(0, 10, 13, 21)] :: pvTb) mL_event C_L_event :=
  pvMetW_of (y := yL_event) 57 3 5 [0] plL coL foL (caL_event hf) rfl ⟨rfl, rfl⟩ chL_event (by decide +kernel) rfl (by decide) (by decide) (by decide) hdL_event owL_event
def bL_valuationBefore : Nat → List (Instr × Nat)
  | 0 => [(.aload_n 2, 1), (.iconst 0, 1), (.aload_n 0, 1), (.iload_n 1, 1)]
  | 4 => [(.invokevirtual 60, 3)]
  | 7 => [(.i2l, 1), (.lastore, 1), (.goto 6, 3)]
  | 15 => [(.iconst 0, 1), (.ireturn, 1)]
  | _ => []
theorem bL_valuationBefore_0 : bL_valuationBefore 0 = [(.aload_n 2, 1), (.iconst 0, 1), (.aload_n 0, 1), (.iload_n 1, 1)] := rfl
theorem bL_valuationBefore_4 : bL_valuationBefore 4 = [(.invokevirtual 60, 3)] := rfl
theorem bL_valuationBefore_7 : bL_valuationBefore 7 = [(.i2l, 1), (.lastore, 1), (.goto 6, 3)] := rfl
theorem bL_valuationBefore_15 : bL_valuationBefore 15 = [(.iconst 0, 1), (.ireturn, 1)] := rfl
def aL_valuationBefore : pvCa
  | 60 => some (2, false, 8, 0, C_X9_valuationBefore)
  | _ => none
def mL_valuationBefore : Room := { frames := 8, cells := 1, slots := 6, locals := 123 }
theorem pnL_valuationBefore : pvPn yL_valuationBefore = some 3 := by decide +kernel
theorem caL_valuationBefore {l : Launch} (hf : l.stackTraces = false) : pvCaOk l mL_valuationBefore "EventClockWorkbenchLaw" pvTb 60 aL_valuationBefore := by
  refine pvCaOk_i fun ix n b ci co C h => ?_
  unfold aL_valuationBefore at h
  split at h
  · cases h; exact pvCe_V (k := 1) (T := TX9) (N := 11) (metX9_valuationBefore hf) rfl wd_1_1 rfl wd_3_159 wd_3_160 wd_3_161 pnX9_valuationBefore rfl wd_3_162
  · cases h
set_option maxRecDepth 100000 in
theorem chL_valuationBefore : ∀ pc, pvChain cL_valuationBefore pc (bL_valuationBefore pc) := by
  intro pc
  unfold bL_valuationBefore
  split <;> first | exact True.intro | exact pvChain_of (by decide +kernel)
theorem shL_valuationBefore {as : List pvV} {z : pvM} {Q : pvO → pvM → Prop} (h : C_X9_valuationBefore as z Q) : ∃ v1 : Int, as = [vR 0, vI v1] := by
  unfold C_X9_valuationBefore at h
  split at h
  · obtain ⟨rfl, -⟩ := h
    exact ⟨_, rfl⟩
  · exact h.elim
set_option maxRecDepth 100000 in
set_option maxHeartbeats 4000000 in
theorem owL_valuationBefore : ∀ as z Q, C_L_valuationBefore as z Q → pvOkS as → pvCs as ≤ 4 ∧ ∃ (a9 rest st9 : List pvV) (Q0 : pvO → pvM → Prop), pvPop 2 st9 [] = some (a9, rest) ∧ pvCs rest ≤ 8 ∧ pvRecv 60 8 a9 ∧ C_X9_valuationBefore a9 z Q0 ∧
      pvB 60 (0, fun _ => 0) fL aL_valuationBefore kL pvEx0 1 (fun pc ls' st z' g => pc = 4 ∧ ls' = pvEn as 4 ∧ st = st9 ∧ z' = z ∧ g = 0) (fun _ _ _ => False) (fun _ _ _ _ => False) (bL_valuationBefore 0) 0 (pvEn as 4) [] z 0 ∧
      (∀ v z', Q0 (.inl v) z' → (∀ x, v = some x → pvOk x) → pvB 60 (0, fun _ => 0) fL aL_valuationBefore kL pvEx0 1 (pvX 60 (0, fun _ => 0) fL aL_valuationBefore kL pvEx0 1 (pvRt (some .int) Q) (fun _ _ _ _ => False) bL_valuationBefore (fun _ => none) (fun _ _ _ _ => False) 9) (pvRt (some .int) Q) (fun _ _ _ _ => False) (bL_valuationBefore (4 + 3)) (4 + 3) (pvEn as 4) (pvPush v rest) z' 0) ∧
      (∀ k z', Q0 (.inr k) z' → k ∈ [0] ∧ Q (.inl (some (vI (hfF [0] k)))) z') := by
  intro as z Q h hS
  unfold C_L_valuationBefore at h
  split at h
  · obtain ⟨rfl, h⟩ := h
    have e := shL_valuationBefore h
    obtain ⟨v1, e⟩ := e
    cases e
    refine ⟨Nat.le_of_ble_eq_true rfl, [vR 0, vI v1], [vI 0, vR 58], [vI v1, vR 0, vI 0, vR 58], wrI [0] Q, rfl, Nat.le_of_ble_eq_true rfl, ⟨rfl, by decide⟩, h, ?_, fun v z' hq hok => ?_, fun k z' hq => hq⟩
    · simp only [bL_valuationBefore_0, bL_valuationBefore_4, bL_valuationBefore_7, bL_valuationBefore_15, pvE_aload_n2, pvLA_s, pvLd, pvE_iconst, pvE_aload_n0, pvE_iload_n1, pvLI_s, pvE_invokevirtual, pvC1_s, pvC2_s, pvAf_v, pvAf_x, pvPop, pvCs, pvCat, pvPush, pvSh_0, pvSh_58, pvSh_59, pvE_i2l, pvE_lastore, pvAL, pvE_goto, pvE_astore_n3, pvS1, List.length_cons, List.length_nil, pvClr_i, pvClr_r, pvClr_l, pvClr_d, pvClr_f, pvClr_n, pvE_ireturn, pvRecv_r, pvUp_nl, pvUp_same, pvUp_ap, pvSt_ap, pvX_c, pvX_ms, pvX_mn, pvE_nil, pvEn_i, pvEn_r, pvEn_l, pvEn_0, pvEn_s, pvRt, pvRv, pvTh, pvKc, pvGo, pvTgt, Int.toNat_natCast, false_and, and_false, true_and, and_true, if_true, if_false, reduceIte, reduceCtorEq, forall_const, false_or, or_false, true_or, or_true, ne_eq, not_true_eq_false, not_false_eq_true, implies_true, false_implies, Nat.reduceAdd, Nat.reduceSub, Nat.reduceMul, Nat.reduceEqDiff, Nat.reduceLT, Nat.reduceLeDiff, Int.reduceAdd, Int.reduceSub, Int.reduceMul, Int.reduceNeg, Int.reduceToNat, Int.reduceLE, Int.reduceLT, Int.reduceEq, Int.reduceNe, and_self, pvPush]
      (repeat' first | with_reducible apply And.intro | with_reducible intro _)
      all_goals first
        | omega
        | rfl
        | trivial
    rcases v with _ | (a | a | a | a | a)
    · exact hq.elim
    · simp only [wrI] at hq
      simp only [bL_valuationBefore_0, bL_valuationBefore_4, bL_valuationBefore_7, bL_valuationBefore_15, pvE_aload_n2, pvLA_s, pvLd, pvE_iconst, pvE_aload_n0, pvE_iload_n1, pvLI_s, pvE_invokevirtual, pvC1_s, pvC2_s, pvAf_v, pvAf_x, pvPop, pvCs, pvCat, pvPush, pvSh_0, pvSh_58, pvSh_59, pvE_i2l, pvE_lastore, pvAL, pvE_goto, pvE_astore_n3, pvS1, List.length_cons, List.length_nil, pvClr_i, pvClr_r, pvClr_l, pvClr_d, pvClr_f, pvClr_n, pvE_ireturn, pvRecv_r, pvUp_nl, pvUp_same, pvUp_ap, pvSt_ap, pvX_c, pvX_ms, pvX_mn, pvE_nil, pvEn_i, pvEn_r, pvEn_l, pvEn_0, pvEn_s, pvRt, pvRv, pvTh, pvKc, pvGo, pvTgt, Int.toNat_natCast, false_and, and_false, true_and, and_true, if_true, if_false, reduceIte, reduceCtorEq, forall_const, false_or, or_false, true_or, or_true, ne_eq, not_true_eq_false, not_false_eq_true, implies_true, false_implies, Nat.reduceAdd, Nat.reduceSub, Nat.reduceMul, Nat.reduceEqDiff, Nat.reduceLT, Nat.reduceLeDiff, Int.reduceAdd, Int.reduceSub, Int.reduceMul, Int.reduceNeg, Int.reduceToNat, Int.reduceLE, Int.reduceLT, Int.reduceEq, Int.reduceNe, and_self, pvPush]
      (repeat' first | with_reducible apply And.intro | with_reducible intro _)
      all_goals first
        | omega
        | exact Or.inl rfl
        | exact hq (hok _ rfl)
    · exact hq.elim
    · exact hq.elim
    · exact hq.elim
    · exact hq.elim
  · exact h.elim
theorem hdL_valuationBefore : ∀ i (x : Nat × Nat × Nat × Nat) (k : Nat), ([(0, 9, 12, 21)] : List (Nat × Nat × Nat × Nat))[i]? = some x → ([0] : List Nat)[i]? = some k → (x.1 ≤ 4 ∧ 4 < x.2.1 ∧ x.2.2.2 ≠ 0 ∧ pvHd cL_valuationBefore 4 x.2.2.1 i) ∧ Cond.classLink "EventClockWorkbenchLaw" x.2.2.2 (pvXn k) ∈ pvTb := by
  intro i x k h1 h2
  match i, h1, h2 with
  | 0, h1, h2 => cases h1; cases h2; exact ⟨⟨by decide, by decide, by decide, ⟨3, by decide, Or.inl ⟨3, rfl, by decide +kernel, by decide +kernel, by decide +kernel⟩⟩⟩, wd_2_137⟩
  | n + 1, h1, h2 => simp at h1
theorem metWL_valuationBefore {l : Launch} (hf : l.stackTraces = false) : pvMetW l yL_valuationBefore (Cond.codeWith yL_valuationBefore cL_valuationBefore 4 (some .int) [(0, 9, 12, 21)] :: pvTb) mL_valuationBefore C_L_valuationBefore :=
  pvMetW_of (y := yL_valuationBefore) 60 2 4 [0] plL coL foL (caL_valuationBefore hf) rfl ⟨rfl, rfl⟩ chL_valuationBefore (by decide +kernel) rfl (by decide) (by decide) (by decide) hdL_valuationBefore owL_valuationBefore
def bL_statesAfter : Nat → List (Instr × Nat)
  | 0 => [(.aload_n 3, 1), (.iconst 0, 1), (.aload_n 0, 1), (.iload_n 1, 1), (.iload_n 2, 1)]
  | 5 => [(.invokevirtual 63, 3)]
  | 8 => [(.i2l, 1), (.lastore, 1), (.goto 7, 3)]
  | 17 => [(.iconst 0, 1), (.ireturn, 1)]
  | _ => []
theorem bL_statesAfter_0 : bL_statesAfter 0 = [(.aload_n 3, 1), (.iconst 0, 1), (.aload_n 0, 1), (.iload_n 1, 1), (.iload_n 2, 1)] := rfl
theorem bL_statesAfter_5 : bL_statesAfter 5 = [(.invokevirtual 63, 3)] := rfl
theorem bL_statesAfter_8 : bL_statesAfter 8 = [(.i2l, 1), (.lastore, 1), (.goto 7, 3)] := rfl
theorem bL_statesAfter_17 : bL_statesAfter 17 = [(.iconst 0, 1), (.ireturn, 1)] := rfl
def aL_statesAfter : pvCa
  | 63 => some (3, false, 8, 0, C_X9_statesAfter)
  | _ => none
def mL_statesAfter : Room := { frames := 8, cells := 1, slots := 6, locals := 159 }
theorem pnL_statesAfter : pvPn yL_statesAfter = some 4 := by decide +kernel
theorem caL_statesAfter {l : Launch} (hf : l.stackTraces = false) : pvCaOk l mL_statesAfter "EventClockWorkbenchLaw" pvTb 60 aL_statesAfter := by
  refine pvCaOk_i fun ix n b ci co C h => ?_
  unfold aL_statesAfter at h
  split at h
  · cases h; exact pvCe_V (k := 2) (T := TX9) (N := 11) (metX9_statesAfter hf) rfl wd_1_1 rfl wd_3_176 wd_3_177 wd_3_178 pnX9_statesAfter rfl wd_3_179
  · cases h
set_option maxRecDepth 100000 in
theorem chL_statesAfter : ∀ pc, pvChain cL_statesAfter pc (bL_statesAfter pc) := by
  intro pc
  unfold bL_statesAfter
  split <;> first | exact True.intro | exact pvChain_of (by decide +kernel)
theorem shL_statesAfter {as : List pvV} {z : pvM} {Q : pvO → pvM → Prop} (h : C_X9_statesAfter as z Q) : ∃ v1 v2 : Int, as = [vR 0, vI v1, vI v2] := by
  unfold C_X9_statesAfter at h
  split at h
  · obtain ⟨rfl, -⟩ := h
    exact ⟨_, _, rfl⟩
  · exact h.elim
set_option maxRecDepth 100000 in
set_option maxHeartbeats 4000000 in
theorem owL_statesAfter : ∀ as z Q, C_L_statesAfter as z Q → pvOkS as → pvCs as ≤ 5 ∧ ∃ (a9 rest st9 : List pvV) (Q0 : pvO → pvM → Prop), pvPop 3 st9 [] = some (a9, rest) ∧ pvCs rest ≤ 8 ∧ pvRecv 60 8 a9 ∧ C_X9_statesAfter a9 z Q0 ∧
      pvB 60 (0, fun _ => 0) fL aL_statesAfter kL pvEx0 1 (fun pc ls' st z' g => pc = 5 ∧ ls' = pvEn as 5 ∧ st = st9 ∧ z' = z ∧ g = 0) (fun _ _ _ => False) (fun _ _ _ _ => False) (bL_statesAfter 0) 0 (pvEn as 5) [] z 0 ∧
      (∀ v z', Q0 (.inl v) z' → (∀ x, v = some x → pvOk x) → pvB 60 (0, fun _ => 0) fL aL_statesAfter kL pvEx0 1 (pvX 60 (0, fun _ => 0) fL aL_statesAfter kL pvEx0 1 (pvRt (some .int) Q) (fun _ _ _ _ => False) bL_statesAfter (fun _ => none) (fun _ _ _ _ => False) 9) (pvRt (some .int) Q) (fun _ _ _ _ => False) (bL_statesAfter (5 + 3)) (5 + 3) (pvEn as 5) (pvPush v rest) z' 0) ∧
      (∀ k z', Q0 (.inr k) z' → k ∈ [0] ∧ Q (.inl (some (vI (hfF [0] k)))) z') := by
  intro as z Q h hS
  unfold C_L_statesAfter at h
  split at h
  · obtain ⟨rfl, h⟩ := h
    have e := shL_statesAfter h
    obtain ⟨v1, v2, e⟩ := e
    cases e
    refine ⟨Nat.le_of_ble_eq_true rfl, [vR 0, vI v1, vI v2], [vI 0, vR 58], [vI v2, vI v1, vR 0, vI 0, vR 58], wrI [0] Q, rfl, Nat.le_of_ble_eq_true rfl, ⟨rfl, by decide⟩, h, ?_, fun v z' hq hok => ?_, fun k z' hq => hq⟩
    · simp only [bL_statesAfter_0, bL_statesAfter_5, bL_statesAfter_8, bL_statesAfter_17, pvE_aload_n3, pvLA_s, pvLd, pvE_iconst, pvE_aload_n0, pvE_iload_n1, pvLI_s, pvE_iload_n2, pvE_invokevirtual, pvC1_s, pvC2_s, pvAf_v, pvAf_x, pvPop, pvCs, pvCat, pvPush, pvSh_0, pvSh_58, pvSh_59, pvE_i2l, pvE_lastore, pvAL, pvE_goto, pvE_astore, pvS1, List.length_cons, List.length_nil, pvClr_i, pvClr_r, pvClr_l, pvClr_d, pvClr_f, pvClr_n, pvE_ireturn, pvRecv_r, pvUp_nl, pvUp_same, pvUp_ap, pvSt_ap, pvX_c, pvX_ms, pvX_mn, pvE_nil, pvEn_i, pvEn_r, pvEn_l, pvEn_0, pvEn_s, pvRt, pvRv, pvTh, pvKc, pvGo, pvTgt, Int.toNat_natCast, false_and, and_false, true_and, and_true, if_true, if_false, reduceIte, reduceCtorEq, forall_const, false_or, or_false, true_or, or_true, ne_eq, not_true_eq_false, not_false_eq_true, implies_true, false_implies, Nat.reduceAdd, Nat.reduceSub, Nat.reduceMul, Nat.reduceEqDiff, Nat.reduceLT, Nat.reduceLeDiff, Int.reduceAdd, Int.reduceSub, Int.reduceMul, Int.reduceNeg, Int.reduceToNat, Int.reduceLE, Int.reduceLT, Int.reduceEq, Int.reduceNe, and_self, pvPush]
      (repeat' first | with_reducible apply And.intro | with_reducible intro _)
      all_goals first
        | omega
        | rfl
        | trivial
    rcases v with _ | (a | a | a | a | a)
    · exact hq.elim
    · simp only [wrI] at hq
      simp only [bL_statesAfter_0, bL_statesAfter_5, bL_statesAfter_8, bL_statesAfter_17, pvE_aload_n3, pvLA_s, pvLd, pvE_iconst, pvE_aload_n0, pvE_iload_n1, pvLI_s, pvE_iload_n2, pvE_invokevirtual, pvC1_s, pvC2_s, pvAf_v, pvAf_x, pvPop, pvCs, pvCat, pvPush, pvSh_0, pvSh_58, pvSh_59, pvE_i2l, pvE_lastore, pvAL, pvE_goto, pvE_astore, pvS1, List.length_cons, List.length_nil, pvClr_i, pvClr_r, pvClr_l, pvClr_d, pvClr_f, pvClr_n, pvE_ireturn, pvRecv_r, pvUp_nl, pvUp_same, pvUp_ap, pvSt_ap, pvX_c, pvX_ms, pvX_mn, pvE_nil, pvEn_i, pvEn_r, pvEn_l, pvEn_0, pvEn_s, pvRt, pvRv, pvTh, pvKc, pvGo, pvTgt, Int.toNat_natCast, false_and, and_false, true_and, and_true, if_true, if_false, reduceIte, reduceCtorEq, forall_const, false_or, or_false, true_or, or_true, ne_eq, not_true_eq_false, not_false_eq_true, implies_true, false_implies, Nat.reduceAdd, Nat.reduceSub, Nat.reduceMul, Nat.reduceEqDiff, Nat.reduceLT, Nat.reduceLeDiff, Int.reduceAdd, Int.reduceSub, Int.reduceMul, Int.reduceNeg, Int.reduceToNat, Int.reduceLE, Int.reduceLT, Int.reduceEq, Int.reduceNe, and_self, pvPush]
      (repeat' first | with_reducible apply And.intro | with_reducible intro _)
      all_goals first
        | omega
        | exact Or.inl rfl
        | exact hq (hok _ rfl)
    · exact hq.elim
    · exact hq.elim
    · exact hq.elim
    · exact hq.elim
  · exact h.elim
theorem hdL_statesAfter : ∀ i (x : Nat × Nat × Nat × Nat) (k : Nat), ([(0, 10, 13, 21)] : List (Nat × Nat × Nat × Nat))[i]? = some x → ([0] : List Nat)[i]? = some k → (x.1 ≤ 5 ∧ 5 < x.2.1 ∧ x.2.2.2 ≠ 0 ∧ pvHd cL_statesAfter 5 x.2.2.1 i) ∧ Cond.classLink "EventClockWorkbenchLaw" x.2.2.2 (pvXn k) ∈ pvTb := by
  intro i x k h1 h2
  match i, h1, h2 with
  | 0, h1, h2 => cases h1; cases h2; exact ⟨⟨by decide, by decide, by decide, ⟨4, by decide, Or.inr ⟨by decide +kernel, by decide +kernel, by decide +kernel⟩⟩⟩, wd_2_137⟩
  | n + 1, h1, h2 => simp at h1
theorem metWL_statesAfter {l : Launch} (hf : l.stackTraces = false) : pvMetW l yL_statesAfter (Cond.codeWith yL_statesAfter cL_statesAfter 5 (some .int) [(0, 10, 13, 21)] :: pvTb) mL_statesAfter C_L_statesAfter :=
  pvMetW_of (y := yL_statesAfter) 63 3 5 [0] plL coL foL (caL_statesAfter hf) rfl ⟨rfl, rfl⟩ chL_statesAfter (by decide +kernel) rfl (by decide) (by decide) (by decide) hdL_statesAfter owL_statesAfter
def bL_accepts : Nat → List (Instr × Nat)
  | 0 => [(.aload_n 2, 1), (.iconst 0, 1), (.aload_n 0, 1), (.iload_n 1, 1)]
  | 4 => [(.invokevirtual 66, 3)]
  | 7 => [(.ifCond .eq 7, 3), (.lconst 1, 1), (.goto 4, 3)]
  | 14 => [(.lconst 0, 1)]
  | 15 => [(.lastore, 1), (.goto 6, 3)]
  | 22 => [(.iconst 0, 1), (.ireturn, 1)]
  | _ => []
theorem bL_accepts_0 : bL_accepts 0 = [(.aload_n 2, 1), (.iconst 0, 1), (.aload_n 0, 1), (.iload_n 1, 1)] := rfl
theorem bL_accepts_4 : bL_accepts 4 = [(.invokevirtual 66, 3)] := rfl
theorem bL_accepts_7 : bL_accepts 7 = [(.ifCond .eq 7, 3), (.lconst 1, 1), (.goto 4, 3)] := rfl
theorem bL_accepts_14 : bL_accepts 14 = [(.lconst 0, 1)] := rfl
theorem bL_accepts_15 : bL_accepts 15 = [(.lastore, 1), (.goto 6, 3)] := rfl
theorem bL_accepts_22 : bL_accepts 22 = [(.iconst 0, 1), (.ireturn, 1)] := rfl
def aL_accepts : pvCa
  | 66 => some (2, false, 8, 0, C_X9_accepts)
  | _ => none
def mL_accepts : Room := { frames := 8, cells := 1, slots := 6, locals := 159 }
theorem pnL_accepts : pvPn yL_accepts = some 3 := by decide +kernel
theorem caL_accepts {l : Launch} (hf : l.stackTraces = false) : pvCaOk l mL_accepts "EventClockWorkbenchLaw" pvTb 60 aL_accepts := by
  refine pvCaOk_i fun ix n b ci co C h => ?_
  unfold aL_accepts at h
  split at h
  · cases h; exact pvCe_V (k := 1) (T := TX9) (N := 11) (metX9_accepts hf) rfl wd_1_1 rfl wd_3_207 wd_3_208 wd_3_209 pnX9_accepts rfl wd_3_210
  · cases h
set_option maxRecDepth 100000 in
theorem chL_accepts : ∀ pc, pvChain cL_accepts pc (bL_accepts pc) := by
  intro pc
  unfold bL_accepts
  split <;> first | exact True.intro | exact pvChain_of (by decide +kernel)
theorem shL_accepts {as : List pvV} {z : pvM} {Q : pvO → pvM → Prop} (h : C_X9_accepts as z Q) : ∃ v1 : Int, as = [vR 0, vI v1] := by
  unfold C_X9_accepts at h
  split at h
  · obtain ⟨rfl, -⟩ := h
    exact ⟨_, rfl⟩
  · exact h.elim
set_option maxRecDepth 100000 in
set_option maxHeartbeats 4000000 in
theorem owL_accepts : ∀ as z Q, C_L_accepts as z Q → pvOkS as → pvCs as ≤ 4 ∧ ∃ (a9 rest st9 : List pvV) (Q0 : pvO → pvM → Prop), pvPop 2 st9 [] = some (a9, rest) ∧ pvCs rest ≤ 8 ∧ pvRecv 60 8 a9 ∧ C_X9_accepts a9 z Q0 ∧
      pvB 60 (0, fun _ => 0) fL aL_accepts kL pvEx0 1 (fun pc ls' st z' g => pc = 4 ∧ ls' = pvEn as 4 ∧ st = st9 ∧ z' = z ∧ g = 0) (fun _ _ _ => False) (fun _ _ _ _ => False) (bL_accepts 0) 0 (pvEn as 4) [] z 0 ∧
      (∀ v z', Q0 (.inl v) z' → (∀ x, v = some x → pvOk x) → pvB 60 (0, fun _ => 0) fL aL_accepts kL pvEx0 1 (pvX 60 (0, fun _ => 0) fL aL_accepts kL pvEx0 1 (pvRt (some .int) Q) (fun _ _ _ _ => False) bL_accepts (fun _ => none) (fun _ _ _ _ => False) 9) (pvRt (some .int) Q) (fun _ _ _ _ => False) (bL_accepts (4 + 3)) (4 + 3) (pvEn as 4) (pvPush v rest) z' 0) ∧
      (∀ k z', Q0 (.inr k) z' → k ∈ [0] ∧ Q (.inl (some (vI (hfF [0] k)))) z') := by
  intro as z Q h hS
  unfold C_L_accepts at h
  split at h
  · obtain ⟨rfl, h⟩ := h
    have e := shL_accepts h
    obtain ⟨v1, e⟩ := e
    cases e
    refine ⟨Nat.le_of_ble_eq_true rfl, [vR 0, vI v1], [vI 0, vR 58], [vI v1, vR 0, vI 0, vR 58], wrB [0] Q, rfl, Nat.le_of_ble_eq_true rfl, ⟨rfl, by decide⟩, h, ?_, fun v z' hq hok => ?_, fun k z' hq => hq⟩
    · simp only [bL_accepts_0, bL_accepts_4, bL_accepts_7, bL_accepts_14, bL_accepts_15, bL_accepts_22, pvE_aload_n2, pvLA_s, pvLd, pvE_iconst, pvE_aload_n0, pvE_iload_n1, pvLI_s, pvE_invokevirtual, pvC1_s, pvC2_s, pvAf_v, pvAf_x, pvPop, pvCs, pvCat, pvPush, pvSh_0, pvSh_58, pvSh_59, pvE_if_eq, pvE_lconst1, pvE_goto, pvE_lconst0, pvE_lastore, pvAL, pvE_astore_n3, pvS1, List.length_cons, List.length_nil, pvClr_i, pvClr_r, pvClr_l, pvClr_d, pvClr_f, pvClr_n, pvE_ireturn, pvRecv_r, pvUp_nl, pvUp_same, pvUp_ap, pvSt_ap, pvX_c, pvX_ms, pvX_mn, pvE_nil, pvEn_i, pvEn_r, pvEn_l, pvEn_0, pvEn_s, pvRt, pvRv, pvTh, pvKc, pvGo, pvTgt, Int.toNat_natCast, false_and, and_false, true_and, and_true, if_true, if_false, reduceIte, reduceCtorEq, forall_const, false_or, or_false, true_or, or_true, ne_eq, not_true_eq_false, not_false_eq_true, implies_true, false_implies, Nat.reduceAdd, Nat.reduceSub, Nat.reduceMul, Nat.reduceEqDiff, Nat.reduceLT, Nat.reduceLeDiff, Int.reduceAdd, Int.reduceSub, Int.reduceMul, Int.reduceNeg, Int.reduceToNat, Int.reduceLE, Int.reduceLT, Int.reduceEq, Int.reduceNe, and_self, pvPush]
      (repeat' first | with_reducible apply And.intro | with_reducible intro _)
      all_goals first
        | omega
        | rfl
        | trivial
    rcases v with _ | (a | a | a | a | a)
    · exact hq.elim
    · simp only [wrB] at hq
      simp only [bL_accepts_0, bL_accepts_4, bL_accepts_7, bL_accepts_14, bL_accepts_15, bL_accepts_22, pvE_aload_n2, pvLA_s, pvLd, pvE_iconst, pvE_aload_n0, pvE_iload_n1, pvLI_s, pvE_invokevirtual, pvC1_s, pvC2_s, pvAf_v, pvAf_x, pvPop, pvCs, pvCat, pvPush, pvSh_0, pvSh_58, pvSh_59, pvE_if_eq, pvE_lconst1, pvE_goto, pvE_lconst0, pvE_lastore, pvAL, pvE_astore_n3, pvS1, List.length_cons, List.length_nil, pvClr_i, pvClr_r, pvClr_l, pvClr_d, pvClr_f, pvClr_n, pvE_ireturn, pvRecv_r, pvUp_nl, pvUp_same, pvUp_ap, pvSt_ap, pvX_c, pvX_ms, pvX_mn, pvE_nil, pvEn_i, pvEn_r, pvEn_l, pvEn_0, pvEn_s, pvRt, pvRv, pvTh, pvKc, pvGo, pvTgt, Int.toNat_natCast, false_and, and_false, true_and, and_true, if_true, if_false, reduceIte, reduceCtorEq, forall_const, false_or, or_false, true_or, or_true, ne_eq, not_true_eq_false, not_false_eq_true, implies_true, false_implies, Nat.reduceAdd, Nat.reduceSub, Nat.reduceMul, Nat.reduceEqDiff, Nat.reduceLT, Nat.reduceLeDiff, Int.reduceAdd, Int.reduceSub, Int.reduceMul, Int.reduceNeg, Int.reduceToNat, Int.reduceLE, Int.reduceLT, Int.reduceEq, Int.reduceNe, and_self, pvPush]
      (repeat' first | with_reducible apply And.intro | with_reducible intro _)
      all_goals first
        | omega
        | exact Or.inl rfl
        | (rename (_ : Int) = 0 => h0; subst h0; exact hq)
        | (rename ¬ (_ : Int) = 0 => h0; simp only [if_neg h0] at hq; exact hq)
    · exact hq.elim
    · exact hq.elim
    · exact hq.elim
    · exact hq.elim
  · exact h.elim
theorem hdL_accepts : ∀ i (x : Nat × Nat × Nat × Nat) (k : Nat), ([(0, 16, 19, 21)] : List (Nat × Nat × Nat × Nat))[i]? = some x → ([0] : List Nat)[i]? = some k → (x.1 ≤ 4 ∧ 4 < x.2.1 ∧ x.2.2.2 ≠ 0 ∧ pvHd cL_accepts 4 x.2.2.1 i) ∧ Cond.classLink "EventClockWorkbenchLaw" x.2.2.2 (pvXn k) ∈ pvTb := by
  intro i x k h1 h2
  match i, h1, h2 with
  | 0, h1, h2 => cases h1; cases h2; exact ⟨⟨by decide, by decide, by decide, ⟨3, by decide, Or.inl ⟨3, rfl, by decide +kernel, by decide +kernel, by decide +kernel⟩⟩⟩, wd_2_137⟩
  | n + 1, h1, h2 => simp at h1
theorem metWL_accepts {l : Launch} (hf : l.stackTraces = false) : pvMetW l yL_accepts (Cond.codeWith yL_accepts cL_accepts 4 (some .int) [(0, 16, 19, 21)] :: pvTb) mL_accepts C_L_accepts :=
  pvMetW_of (y := yL_accepts) 66 2 4 [0] plL coL foL (caL_accepts hf) rfl ⟨rfl, rfl⟩ chL_accepts (by decide +kernel) rfl (by decide) (by decide) (by decide) hdL_accepts owL_accepts
def bL_runCount : Nat → List (Instr × Nat)
  | 0 => [(.aload_n 2, 1), (.iconst 0, 1), (.aload_n 0, 1), (.iload_n 1, 1)]
  | 4 => [(.invokevirtual 70, 3)]
  | 7 => [(.lastore, 1), (.goto 6, 3)]
  | 14 => [(.iconst 0, 1), (.ireturn, 1)]
  | _ => []
theorem bL_runCount_0 : bL_runCount 0 = [(.aload_n 2, 1), (.iconst 0, 1), (.aload_n 0, 1), (.iload_n 1, 1)] := rfl
theorem bL_runCount_4 : bL_runCount 4 = [(.invokevirtual 70, 3)] := rfl
theorem bL_runCount_7 : bL_runCount 7 = [(.lastore, 1), (.goto 6, 3)] := rfl
theorem bL_runCount_14 : bL_runCount 14 = [(.iconst 0, 1), (.ireturn, 1)] := rfl
def aL_runCount : pvCa
  | 70 => some (2, false, 8, 0, C_X9_runCount)
  | _ => none
def mL_runCount : Room := { frames := 8, cells := 1, slots := 6, locals := 161 }
theorem pnL_runCount : pvPn yL_runCount = some 3 := by decide +kernel
theorem caL_runCount {l : Launch} (hf : l.stackTraces = false) : pvCaOk l mL_runCount "EventClockWorkbenchLaw" pvTb 60 aL_runCount := by
  refine pvCaOk_i fun ix n b ci co C h => ?_
  unfold aL_runCount at h
  split at h
  · cases h; exact pvCe_V (k := 1) (T := TX9) (N := 11) (metX9_runCount hf) rfl wd_1_1 rfl wd_3_214 wd_3_215 wd_3_216 pnX9_runCount rfl wd_3_217
  · cases h
set_option maxRecDepth 100000 in
theorem chL_runCount : ∀ pc, pvChain cL_runCount pc (bL_runCount pc) := by
  intro pc
  unfold bL_runCount
  split <;> first | exact True.intro | exact pvChain_of (by decide +kernel)
theorem shL_runCount {as : List pvV} {z : pvM} {Q : pvO → pvM → Prop} (h : C_X9_runCount as z Q) : ∃ v1 : Int, as = [vR 0, vI v1] := by
  unfold C_X9_runCount at h
  split at h
  · obtain ⟨rfl, -⟩ := h
    exact ⟨_, rfl⟩
  · exact h.elim
set_option maxRecDepth 100000 in
set_option maxHeartbeats 4000000 in
theorem owL_runCount : ∀ as z Q, C_L_runCount as z Q → pvOkS as → pvCs as ≤ 4 ∧ ∃ (a9 rest st9 : List pvV) (Q0 : pvO → pvM → Prop), pvPop 2 st9 [] = some (a9, rest) ∧ pvCs rest ≤ 8 ∧ pvRecv 60 8 a9 ∧ C_X9_runCount a9 z Q0 ∧
      pvB 60 (0, fun _ => 0) fL aL_runCount kL pvEx0 1 (fun pc ls' st z' g => pc = 4 ∧ ls' = pvEn as 4 ∧ st = st9 ∧ z' = z ∧ g = 0) (fun _ _ _ => False) (fun _ _ _ _ => False) (bL_runCount 0) 0 (pvEn as 4) [] z 0 ∧
      (∀ v z', Q0 (.inl v) z' → (∀ x, v = some x → pvOk x) → pvB 60 (0, fun _ => 0) fL aL_runCount kL pvEx0 1 (pvX 60 (0, fun _ => 0) fL aL_runCount kL pvEx0 1 (pvRt (some .int) Q) (fun _ _ _ _ => False) bL_runCount (fun _ => none) (fun _ _ _ _ => False) 9) (pvRt (some .int) Q) (fun _ _ _ _ => False) (bL_runCount (4 + 3)) (4 + 3) (pvEn as 4) (pvPush v rest) z' 0) ∧
      (∀ k z', Q0 (.inr k) z' → k ∈ [0] ∧ Q (.inl (some (vI (hfF [0] k)))) z') := by
  intro as z Q h hS
  unfold C_L_runCount at h
  split at h
  · obtain ⟨rfl, h⟩ := h
    have e := shL_runCount h
    obtain ⟨v1, e⟩ := e
    cases e
    refine ⟨Nat.le_of_ble_eq_true rfl, [vR 0, vI v1], [vI 0, vR 58], [vI v1, vR 0, vI 0, vR 58], wrL [0] Q, rfl, Nat.le_of_ble_eq_true rfl, ⟨rfl, by decide⟩, h, ?_, fun v z' hq hok => ?_, fun k z' hq => hq⟩
    · simp only [bL_runCount_0, bL_runCount_4, bL_runCount_7, bL_runCount_14, pvE_aload_n2, pvLA_s, pvLd, pvE_iconst, pvE_aload_n0, pvE_iload_n1, pvLI_s, pvE_invokevirtual, pvC1_s, pvC2_s, pvAf_v, pvAf_x, pvPop, pvCs, pvCat, pvPush, pvSh_0, pvSh_58, pvSh_59, pvE_lastore, pvAL, pvE_goto, pvE_astore_n3, pvS1, List.length_cons, List.length_nil, pvClr_i, pvClr_r, pvClr_l, pvClr_d, pvClr_f, pvClr_n, pvE_ireturn, pvRecv_r, pvUp_nl, pvUp_same, pvUp_ap, pvSt_ap, pvX_c, pvX_ms, pvX_mn, pvE_nil, pvEn_i, pvEn_r, pvEn_l, pvEn_0, pvEn_s, pvRt, pvRv, pvTh, pvKc, pvGo, pvTgt, Int.toNat_natCast, false_and, and_false, true_and, and_true, if_true, if_false, reduceIte, reduceCtorEq, forall_const, false_or, or_false, true_or, or_true, ne_eq, not_true_eq_false, not_false_eq_true, implies_true, false_implies, Nat.reduceAdd, Nat.reduceSub, Nat.reduceMul, Nat.reduceEqDiff, Nat.reduceLT, Nat.reduceLeDiff, Int.reduceAdd, Int.reduceSub, Int.reduceMul, Int.reduceNeg, Int.reduceToNat, Int.reduceLE, Int.reduceLT, Int.reduceEq, Int.reduceNe, and_self, pvPush]
      (repeat' first | with_reducible apply And.intro | with_reducible intro _)
      all_goals first
        | omega
        | rfl
        | trivial
    rcases v with _ | (a | a | a | a | a)
    · exact hq.elim
    · exact hq.elim
    · simp only [wrL] at hq
      simp only [bL_runCount_0, bL_runCount_4, bL_runCount_7, bL_runCount_14, pvE_aload_n2, pvLA_s, pvLd, pvE_iconst, pvE_aload_n0, pvE_iload_n1, pvLI_s, pvE_invokevirtual, pvC1_s, pvC2_s, pvAf_v, pvAf_x, pvPop, pvCs, pvCat, pvPush, pvSh_0, pvSh_58, pvSh_59, pvE_lastore, pvAL, pvE_goto, pvE_astore_n3, pvS1, List.length_cons, List.length_nil, pvClr_i, pvClr_r, pvClr_l, pvClr_d, pvClr_f, pvClr_n, pvE_ireturn, pvRecv_r, pvUp_nl, pvUp_same, pvUp_ap, pvSt_ap, pvX_c, pvX_ms, pvX_mn, pvE_nil, pvEn_i, pvEn_r, pvEn_l, pvEn_0, pvEn_s, pvRt, pvRv, pvTh, pvKc, pvGo, pvTgt, Int.toNat_natCast, false_and, and_false, true_and, and_true, if_true, if_false, reduceIte, reduceCtorEq, forall_const, false_or, or_false, true_or, or_true, ne_eq, not_true_eq_false, not_false_eq_true, implies_true, false_implies, Nat.reduceAdd, Nat.reduceSub, Nat.reduceMul, Nat.reduceEqDiff, Nat.reduceLT, Nat.reduceLeDiff, Int.reduceAdd, Int.reduceSub, Int.reduceMul, Int.reduceNeg, Int.reduceToNat, Int.reduceLE, Int.reduceLT, Int.reduceEq, Int.reduceNe, and_self, pvPush]
      (repeat' first | with_reducible apply And.intro | with_reducible intro _)
      all_goals first
        | omega
        | exact Or.inl rfl
        | exact hq
    · exact hq.elim
    · exact hq.elim
    · exact hq.elim
  · exact h.elim
theorem hdL_runCount : ∀ i (x : Nat × Nat × Nat × Nat) (k : Nat), ([(0, 8, 11, 21)] : List (Nat × Nat × Nat × Nat))[i]? = some x → ([0] : List Nat)[i]? = some k → (x.1 ≤ 4 ∧ 4 < x.2.1 ∧ x.2.2.2 ≠ 0 ∧ pvHd cL_runCount 4 x.2.2.1 i) ∧ Cond.classLink "EventClockWorkbenchLaw" x.2.2.2 (pvXn k) ∈ pvTb := by
  intro i x k h1 h2
  match i, h1, h2 with
  | 0, h1, h2 => cases h1; cases h2; exact ⟨⟨by decide, by decide, by decide, ⟨3, by decide, Or.inl ⟨3, rfl, by decide +kernel, by decide +kernel, by decide +kernel⟩⟩⟩, wd_2_137⟩
  | n + 1, h1, h2 => simp at h1
theorem metWL_runCount {l : Launch} (hf : l.stackTraces = false) : pvMetW l yL_runCount (Cond.codeWith yL_runCount cL_runCount 4 (some .int) [(0, 8, 11, 21)] :: pvTb) mL_runCount C_L_runCount :=
  pvMetW_of (y := yL_runCount) 70 2 4 [0] plL coL foL (caL_runCount hf) rfl ⟨rfl, rfl⟩ chL_runCount (by decide +kernel) rfl (by decide) (by decide) (by decide) hdL_runCount owL_runCount
def bL_acceptingRuns : Nat → List (Instr × Nat)
  | 0 => [(.aload_n 2, 1), (.iconst 0, 1), (.aload_n 0, 1), (.iload_n 1, 1)]
  | 4 => [(.invokevirtual 74, 3)]
  | 7 => [(.lastore, 1), (.goto 6, 3)]
  | 14 => [(.iconst 0, 1), (.ireturn, 1)]
  | _ => []
theorem bL_acceptingRuns_0 : bL_acceptingRuns 0 = [(.aload_n 2, 1), (.iconst 0, 1), (.aload_n 0, 1), (.iload_n 1, 1)] := rfl
theorem bL_acceptingRuns_4 : bL_acceptingRuns 4 = [(.invokevirtual 74, 3)] := rfl
theorem bL_acceptingRuns_7 : bL_acceptingRuns 7 = [(.lastore, 1), (.goto 6, 3)] := rfl
theorem bL_acceptingRuns_14 : bL_acceptingRuns 14 = [(.iconst 0, 1), (.ireturn, 1)] := rfl
def aL_acceptingRuns : pvCa
  | 74 => some (2, false, 8, 0, C_X9_acceptingRuns)
  | _ => none
def mL_acceptingRuns : Room := { frames := 8, cells := 1, slots := 6, locals := 161 }
theorem pnL_acceptingRuns : pvPn yL_acceptingRuns = some 3 := by decide +kernel
theorem caL_acceptingRuns {l : Launch} (hf : l.stackTraces = false) : pvCaOk l mL_acceptingRuns "EventClockWorkbenchLaw" pvTb 60 aL_acceptingRuns := by
  refine pvCaOk_i fun ix n b ci co C h => ?_
  unfold aL_acceptingRuns at h
  split at h
  · cases h; exact pvCe_V (k := 1) (T := TX9) (N := 11) (metX9_acceptingRuns hf) rfl wd_1_1 rfl wd_3_237 wd_3_238 wd_3_239 pnX9_acceptingRuns rfl wd_4_0
  · cases h
set_option maxRecDepth 100000 in
theorem chL_acceptingRuns : ∀ pc, pvChain cL_acceptingRuns pc (bL_acceptingRuns pc) := by
  intro pc
  unfold bL_acceptingRuns
  split <;> first | exact True.intro | exact pvChain_of (by decide +kernel)
theorem shL_acceptingRuns {as : List pvV} {z : pvM} {Q : pvO → pvM → Prop} (h : C_X9_acceptingRuns as z Q) : ∃ v1 : Int, as = [vR 0, vI v1] := by
  unfold C_X9_acceptingRuns at h
  split at h
  · obtain ⟨rfl, -⟩ := h
    exact ⟨_, rfl⟩
  · exact h.elim
set_option maxRecDepth 100000 in
set_option maxHeartbeats 4000000 in
theorem owL_acceptingRuns : ∀ as z Q, C_L_acceptingRuns as z Q → pvOkS as → pvCs as ≤ 4 ∧ ∃ (a9 rest st9 : List pvV) (Q0 : pvO → pvM → Prop), pvPop 2 st9 [] = some (a9, rest) ∧ pvCs rest ≤ 8 ∧ pvRecv 60 8 a9 ∧ C_X9_acceptingRuns a9 z Q0 ∧
      pvB 60 (0, fun _ => 0) fL aL_acceptingRuns kL pvEx0 1 (fun pc ls' st z' g => pc = 4 ∧ ls' = pvEn as 4 ∧ st = st9 ∧ z' = z ∧ g = 0) (fun _ _ _ => False) (fun _ _ _ _ => False) (bL_acceptingRuns 0) 0 (pvEn as 4) [] z 0 ∧
      (∀ v z', Q0 (.inl v) z' → (∀ x, v = some x → pvOk x) → pvB 60 (0, fun _ => 0) fL aL_acceptingRuns kL pvEx0 1 (pvX 60 (0, fun _ => 0) fL aL_acceptingRuns kL pvEx0 1 (pvRt (some .int) Q) (fun _ _ _ _ => False) bL_acceptingRuns (fun _ => none) (fun _ _ _ _ => False) 9) (pvRt (some .int) Q) (fun _ _ _ _ => False) (bL_acceptingRuns (4 + 3)) (4 + 3) (pvEn as 4) (pvPush v rest) z' 0) ∧
      (∀ k z', Q0 (.inr k) z' → k ∈ [0] ∧ Q (.inl (some (vI (hfF [0] k)))) z') := by
  intro as z Q h hS
  unfold C_L_acceptingRuns at h
  split at h
  · obtain ⟨rfl, h⟩ := h
    have e := shL_acceptingRuns h
    obtain ⟨v1, e⟩ := e
    cases e
    refine ⟨Nat.le_of_ble_eq_true rfl, [vR 0, vI v1], [vI 0, vR 58], [vI v1, vR 0, vI 0, vR 58], wrL [0] Q, rfl, Nat.le_of_ble_eq_true rfl, ⟨rfl, by decide⟩, h, ?_, fun v z' hq hok => ?_, fun k z' hq => hq⟩
    · simp only [bL_acceptingRuns_0, bL_acceptingRuns_4, bL_acceptingRuns_7, bL_acceptingRuns_14, pvE_aload_n2, pvLA_s, pvLd, pvE_iconst, pvE_aload_n0, pvE_iload_n1, pvLI_s, pvE_invokevirtual, pvC1_s, pvC2_s, pvAf_v, pvAf_x, pvPop, pvCs, pvCat, pvPush, pvSh_0, pvSh_58, pvSh_59, pvE_lastore, pvAL, pvE_goto, pvE_astore_n3, pvS1, List.length_cons, List.length_nil, pvClr_i, pvClr_r, pvClr_l, pvClr_d, pvClr_f, pvClr_n, pvE_ireturn, pvRecv_r, pvUp_nl, pvUp_same, pvUp_ap, pvSt_ap, pvX_c, pvX_ms, pvX_mn, pvE_nil, pvEn_i, pvEn_r, pvEn_l, pvEn_0, pvEn_s, pvRt, pvRv, pvTh, pvKc, pvGo, pvTgt, Int.toNat_natCast, false_and, and_false, true_and, and_true, if_true, if_false, reduceIte, reduceCtorEq, forall_const, false_or, or_false, true_or, or_true, ne_eq, not_true_eq_false, not_false_eq_true, implies_true, false_implies, Nat.reduceAdd, Nat.reduceSub, Nat.reduceMul, Nat.reduceEqDiff, Nat.reduceLT, Nat.reduceLeDiff, Int.reduceAdd, Int.reduceSub, Int.reduceMul, Int.reduceNeg, Int.reduceToNat, Int.reduceLE, Int.reduceLT, Int.reduceEq, Int.reduceNe, and_self, pvPush]
      (repeat' first | with_reducible apply And.intro | with_reducible intro _)
      all_goals first
        | omega
        | rfl
        | trivial
    rcases v with _ | (a | a | a | a | a)
    · exact hq.elim
    · exact hq.elim
    · simp only [wrL] at hq
      simp only [bL_acceptingRuns_0, bL_acceptingRuns_4, bL_acceptingRuns_7, bL_acceptingRuns_14, pvE_aload_n2, pvLA_s, pvLd, pvE_iconst, pvE_aload_n0, pvE_iload_n1, pvLI_s, pvE_invokevirtual, pvC1_s, pvC2_s, pvAf_v, pvAf_x, pvPop, pvCs, pvCat, pvPush, pvSh_0, pvSh_58, pvSh_59, pvE_lastore, pvAL, pvE_goto, pvE_astore_n3, pvS1, List.length_cons, List.length_nil, pvClr_i, pvClr_r, pvClr_l, pvClr_d, pvClr_f, pvClr_n, pvE_ireturn, pvRecv_r, pvUp_nl, pvUp_same, pvUp_ap, pvSt_ap, pvX_c, pvX_ms, pvX_mn, pvE_nil, pvEn_i, pvEn_r, pvEn_l, pvEn_0, pvEn_s, pvRt, pvRv, pvTh, pvKc, pvGo, pvTgt, Int.toNat_natCast, false_and, and_false, true_and, and_true, if_true, if_false, reduceIte, reduceCtorEq, forall_const, false_or, or_false, true_or, or_true, ne_eq, not_true_eq_false, not_false_eq_true, implies_true, false_implies, Nat.reduceAdd, Nat.reduceSub, Nat.reduceMul, Nat.reduceEqDiff, Nat.reduceLT, Nat.reduceLeDiff, Int.reduceAdd, Int.reduceSub, Int.reduceMul, Int.reduceNeg, Int.reduceToNat, Int.reduceLE, Int.reduceLT, Int.reduceEq, Int.reduceNe, and_self, pvPush]
      (repeat' first | with_reducible apply And.intro | with_reducible intro _)
      all_goals first
        | omega
        | exact Or.inl rfl
        | exact hq
    · exact hq.elim
    · exact hq.elim
    · exact hq.elim
  · exact h.elim
theorem hdL_acceptingRuns : ∀ i (x : Nat × Nat × Nat × Nat) (k : Nat), ([(0, 8, 11, 21)] : List (Nat × Nat × Nat × Nat))[i]? = some x → ([0] : List Nat)[i]? = some k → (x.1 ≤ 4 ∧ 4 < x.2.1 ∧ x.2.2.2 ≠ 0 ∧ pvHd cL_acceptingRuns 4 x.2.2.1 i) ∧ Cond.classLink "EventClockWorkbenchLaw" x.2.2.2 (pvXn k) ∈ pvTb := by
  intro i x k h1 h2
  match i, h1, h2 with
  | 0, h1, h2 => cases h1; cases h2; exact ⟨⟨by decide, by decide, by decide, ⟨3, by decide, Or.inl ⟨3, rfl, by decide +kernel, by decide +kernel, by decide +kernel⟩⟩⟩, wd_2_137⟩
  | n + 1, h1, h2 => simp at h1
theorem metWL_acceptingRuns {l : Launch} (hf : l.stackTraces = false) : pvMetW l yL_acceptingRuns (Cond.codeWith yL_acceptingRuns cL_acceptingRuns 4 (some .int) [(0, 8, 11, 21)] :: pvTb) mL_acceptingRuns C_L_acceptingRuns :=
  pvMetW_of (y := yL_acceptingRuns) 74 2 4 [0] plL coL foL (caL_acceptingRuns hf) rfl ⟨rfl, rfl⟩ chL_acceptingRuns (by decide +kernel) rfl (by decide) (by decide) (by decide) hdL_acceptingRuns owL_acceptingRuns
def bL_firstRun : Nat → List (Instr × Nat)
  | 0 => [(.aload_n 3, 1), (.iconst 0, 1), (.aload_n 0, 1), (.iload_n 1, 1), (.iload_n 2, 1)]
  | 5 => [(.invokevirtual 77, 3)]
  | 8 => [(.i2l, 1), (.lastore, 1), (.goto 11, 3)]
  | 21 => [(.iconst 0, 1), (.ireturn, 1)]
  | _ => []
theorem bL_firstRun_0 : bL_firstRun 0 = [(.aload_n 3, 1), (.iconst 0, 1), (.aload_n 0, 1), (.iload_n 1, 1), (.iload_n 2, 1)] := rfl
theorem bL_firstRun_5 : bL_firstRun 5 = [(.invokevirtual 77, 3)] := rfl
theorem bL_firstRun_8 : bL_firstRun 8 = [(.i2l, 1), (.lastore, 1), (.goto 11, 3)] := rfl
theorem bL_firstRun_21 : bL_firstRun 21 = [(.iconst 0, 1), (.ireturn, 1)] := rfl
def aL_firstRun : pvCa
  | 77 => some (3, false, 8, 0, C_X9_firstRun)
  | _ => none
def mL_firstRun : Room := { frames := 8, cells := 1, slots := 6, locals := 187 }
theorem pnL_firstRun : pvPn yL_firstRun = some 4 := by decide +kernel
theorem caL_firstRun {l : Launch} (hf : l.stackTraces = false) : pvCaOk l mL_firstRun "EventClockWorkbenchLaw" pvTb 60 aL_firstRun := by
  refine pvCaOk_i fun ix n b ci co C h => ?_
  unfold aL_firstRun at h
  split at h
  · cases h; exact pvCe_V (k := 2) (T := TX9) (N := 11) (metX9_firstRun hf) rfl wd_1_1 rfl wd_4_5 wd_4_6 wd_4_7 pnX9_firstRun rfl wd_4_8
  · cases h
set_option maxRecDepth 100000 in
theorem chL_firstRun : ∀ pc, pvChain cL_firstRun pc (bL_firstRun pc) := by
  intro pc
  unfold bL_firstRun
  split <;> first | exact True.intro | exact pvChain_of (by decide +kernel)
theorem shL_firstRun {as : List pvV} {z : pvM} {Q : pvO → pvM → Prop} (h : C_X9_firstRun as z Q) : ∃ v1 v2 : Int, as = [vR 0, vI v1, vI v2] := by
  unfold C_X9_firstRun at h
  split at h
  · obtain ⟨rfl, -⟩ := h
    exact ⟨_, _, rfl⟩
  · exact h.elim
set_option maxRecDepth 100000 in
set_option maxHeartbeats 4000000 in
theorem owL_firstRun : ∀ as z Q, C_L_firstRun as z Q → pvOkS as → pvCs as ≤ 5 ∧ ∃ (a9 rest st9 : List pvV) (Q0 : pvO → pvM → Prop), pvPop 3 st9 [] = some (a9, rest) ∧ pvCs rest ≤ 8 ∧ pvRecv 60 8 a9 ∧ C_X9_firstRun a9 z Q0 ∧
      pvB 60 (0, fun _ => 0) fL aL_firstRun kL pvEx0 1 (fun pc ls' st z' g => pc = 5 ∧ ls' = pvEn as 5 ∧ st = st9 ∧ z' = z ∧ g = 0) (fun _ _ _ => False) (fun _ _ _ _ => False) (bL_firstRun 0) 0 (pvEn as 5) [] z 0 ∧
      (∀ v z', Q0 (.inl v) z' → (∀ x, v = some x → pvOk x) → pvB 60 (0, fun _ => 0) fL aL_firstRun kL pvEx0 1 (pvX 60 (0, fun _ => 0) fL aL_firstRun kL pvEx0 1 (pvRt (some .int) Q) (fun _ _ _ _ => False) bL_firstRun (fun _ => none) (fun _ _ _ _ => False) 9) (pvRt (some .int) Q) (fun _ _ _ _ => False) (bL_firstRun (5 + 3)) (5 + 3) (pvEn as 5) (pvPush v rest) z' 0) ∧
      (∀ k z', Q0 (.inr k) z' → k ∈ [0, 3] ∧ Q (.inl (some (vI (hfF [0, 3] k)))) z') := by
  intro as z Q h hS
  unfold C_L_firstRun at h
  split at h
  · obtain ⟨rfl, h⟩ := h
    have e := shL_firstRun h
    obtain ⟨v1, v2, e⟩ := e
    cases e
    refine ⟨Nat.le_of_ble_eq_true rfl, [vR 0, vI v1, vI v2], [vI 0, vR 58], [vI v2, vI v1, vR 0, vI 0, vR 58], wrI [0, 3] Q, rfl, Nat.le_of_ble_eq_true rfl, ⟨rfl, by decide⟩, h, ?_, fun v z' hq hok => ?_, fun k z' hq => hq⟩
    · simp only [bL_firstRun_0, bL_firstRun_5, bL_firstRun_8, bL_firstRun_21, pvE_aload_n3, pvLA_s, pvLd, pvE_iconst, pvE_aload_n0, pvE_iload_n1, pvLI_s, pvE_iload_n2, pvE_invokevirtual, pvC1_s, pvC2_s, pvAf_v, pvAf_x, pvPop, pvCs, pvCat, pvPush, pvSh_0, pvSh_58, pvSh_59, pvE_i2l, pvE_lastore, pvAL, pvE_goto, pvE_astore, pvS1, List.length_cons, List.length_nil, pvClr_i, pvClr_r, pvClr_l, pvClr_d, pvClr_f, pvClr_n, pvE_ireturn, pvRecv_r, pvUp_nl, pvUp_same, pvUp_ap, pvSt_ap, pvX_c, pvX_ms, pvX_mn, pvE_nil, pvEn_i, pvEn_r, pvEn_l, pvEn_0, pvEn_s, pvRt, pvRv, pvTh, pvKc, pvGo, pvTgt, Int.toNat_natCast, false_and, and_false, true_and, and_true, if_true, if_false, reduceIte, reduceCtorEq, forall_const, false_or, or_false, true_or, or_true, ne_eq, not_true_eq_false, not_false_eq_true, implies_true, false_implies, Nat.reduceAdd, Nat.reduceSub, Nat.reduceMul, Nat.reduceEqDiff, Nat.reduceLT, Nat.reduceLeDiff, Int.reduceAdd, Int.reduceSub, Int.reduceMul, Int.reduceNeg, Int.reduceToNat, Int.reduceLE, Int.reduceLT, Int.reduceEq, Int.reduceNe, and_self, pvPush]
      (repeat' first | with_reducible apply And.intro | with_reducible intro _)
      all_goals first
        | omega
        | rfl
        | trivial
    rcases v with _ | (a | a | a | a | a)
    · exact hq.elim
    · simp only [wrI] at hq
      simp only [bL_firstRun_0, bL_firstRun_5, bL_firstRun_8, bL_firstRun_21, pvE_aload_n3, pvLA_s, pvLd, pvE_iconst, pvE_aload_n0, pvE_iload_n1, pvLI_s, pvE_iload_n2, pvE_invokevirtual, pvC1_s, pvC2_s, pvAf_v, pvAf_x, pvPop, pvCs, pvCat, pvPush, pvSh_0, pvSh_58, pvSh_59, pvE_i2l, pvE_lastore, pvAL, pvE_goto, pvE_astore, pvS1, List.length_cons, List.length_nil, pvClr_i, pvClr_r, pvClr_l, pvClr_d, pvClr_f, pvClr_n, pvE_ireturn, pvRecv_r, pvUp_nl, pvUp_same, pvUp_ap, pvSt_ap, pvX_c, pvX_ms, pvX_mn, pvE_nil, pvEn_i, pvEn_r, pvEn_l, pvEn_0, pvEn_s, pvRt, pvRv, pvTh, pvKc, pvGo, pvTgt, Int.toNat_natCast, false_and, and_false, true_and, and_true, if_true, if_false, reduceIte, reduceCtorEq, forall_const, false_or, or_false, true_or, or_true, ne_eq, not_true_eq_false, not_false_eq_true, implies_true, false_implies, Nat.reduceAdd, Nat.reduceSub, Nat.reduceMul, Nat.reduceEqDiff, Nat.reduceLT, Nat.reduceLeDiff, Int.reduceAdd, Int.reduceSub, Int.reduceMul, Int.reduceNeg, Int.reduceToNat, Int.reduceLE, Int.reduceLT, Int.reduceEq, Int.reduceNe, and_self, pvPush]
      (repeat' first | with_reducible apply And.intro | with_reducible intro _)
      all_goals first
        | omega
        | exact Or.inl rfl
        | exact hq (hok _ rfl)
    · exact hq.elim
    · exact hq.elim
    · exact hq.elim
    · exact hq.elim
  · exact h.elim
theorem hdL_firstRun : ∀ i (x : Nat × Nat × Nat × Nat) (k : Nat), ([(0, 10, 13, 21), (0, 10, 17, 80)] : List (Nat × Nat × Nat × Nat))[i]? = some x → ([0, 3] : List Nat)[i]? = some k → (x.1 ≤ 5 ∧ 5 < x.2.1 ∧ x.2.2.2 ≠ 0 ∧ pvHd cL_firstRun 5 x.2.2.1 i) ∧ Cond.classLink "EventClockWorkbenchLaw" x.2.2.2 (pvXn k) ∈ pvTb := by
  intro i x k h1 h2
  match i, h1, h2 with
  | 0, h1, h2 => cases h1; cases h2; exact ⟨⟨by decide, by decide, by decide, ⟨4, by decide, Or.inr ⟨by decide +kernel, by decide +kernel, by decide +kernel⟩⟩⟩, wd_2_137⟩
  | 1, h1, h2 => cases h1; cases h2; exact ⟨⟨by decide, by decide, by decide, ⟨4, by decide, Or.inr ⟨by decide +kernel, by decide +kernel, by decide +kernel⟩⟩⟩, wd_4_4⟩
  | n + 2, h1, h2 => simp at h1
theorem metWL_firstRun {l : Launch} (hf : l.stackTraces = false) : pvMetW l yL_firstRun (Cond.codeWith yL_firstRun cL_firstRun 5 (some .int) [(0, 10, 13, 21), (0, 10, 17, 80)] :: pvTb) mL_firstRun C_L_firstRun :=
  pvMetW_of (y := yL_firstRun) 77 3 5 [0, 3] plL coL foL (caL_firstRun hf) rfl ⟨rfl, rfl⟩ chL_firstRun (by decide +kernel) rfl (by decide) (by decide) (by decide) hdL_firstRun owL_firstRun
def bL_stuckAt : Nat → List (Instr × Nat)
  | 0 => [(.aload_n 2, 1), (.iconst 0, 1), (.aload_n 0, 1), (.iload_n 1, 1)]
  | 4 => [(.invokevirtual 82, 3)]
  | 7 => [(.i2l, 1), (.lastore, 1), (.goto 9, 3)]
  | 18 => [(.iconst 0, 1), (.ireturn, 1)]
  | _ => []
theorem bL_stuckAt_0 : bL_stuckAt 0 = [(.aload_n 2, 1), (.iconst 0, 1), (.aload_n 0, 1), (.iload_n 1, 1)] := rfl
theorem bL_stuckAt_4 : bL_stuckAt 4 = [(.invokevirtual 82, 3)] := rfl
theorem bL_stuckAt_7 : bL_stuckAt 7 = [(.i2l, 1), (.lastore, 1), (.goto 9, 3)] := rfl
theorem bL_stuckAt_18 : bL_stuckAt 18 = [(.iconst 0, 1), (.ireturn, 1)] := rfl
def aL_stuckAt : pvCa
  | 82 => some (2, false, 8, 0, C_X9_stuckAt)
  | _ => none
def mL_stuckAt : Room := { frames := 8, cells := 1, slots := 6, locals := 158 }
theorem pnL_stuckAt : pvPn yL_stuckAt = some 3 := by decide +kernel
theorem caL_stuckAt {l : Launch} (hf : l.stackTraces = false) : pvCaOk l mL_stuckAt "EventClockWorkbenchLaw" pvTb 60 aL_stuckAt := by
  refine pvCaOk_i fun ix n b ci co C h => ?_
  unfold aL_stuckAt at h
  split at h
  · cases h; exact pvCe_V (k := 1) (T := TX9) (N := 11) (metX9_stuckAt hf) rfl wd_1_1 rfl wd_4_52 wd_4_53 wd_4_54 pnX9_stuckAt rfl wd_4_55
  · cases h
set_option maxRecDepth 100000 in
theorem chL_stuckAt : ∀ pc, pvChain cL_stuckAt pc (bL_stuckAt pc) := by
  intro pc
  unfold bL_stuckAt
  split <;> first | exact True.intro | exact pvChain_of (by decide +kernel)
theorem shL_stuckAt {as : List pvV} {z : pvM} {Q : pvO → pvM → Prop} (h : C_X9_stuckAt as z Q) : ∃ v1 : Int, as = [vR 0, vI v1] := by
  unfold C_X9_stuckAt at h
  split at h
  · obtain ⟨rfl, -⟩ := h
    exact ⟨_, rfl⟩
  · exact h.elim
set_option maxRecDepth 100000 in
set_option maxHeartbeats 4000000 in
theorem owL_stuckAt : ∀ as z Q, C_L_stuckAt as z Q → pvOkS as → pvCs as ≤ 4 ∧ ∃ (a9 rest st9 : List pvV) (Q0 : pvO → pvM → Prop), pvPop 2 st9 [] = some (a9, rest) ∧ pvCs rest ≤ 8 ∧ pvRecv 60 8 a9 ∧ C_X9_stuckAt a9 z Q0 ∧
      pvB 60 (0, fun _ => 0) fL aL_stuckAt kL pvEx0 1 (fun pc ls' st z' g => pc = 4 ∧ ls' = pvEn as 4 ∧ st = st9 ∧ z' = z ∧ g = 0) (fun _ _ _ => False) (fun _ _ _ _ => False) (bL_stuckAt 0) 0 (pvEn as 4) [] z 0 ∧
      (∀ v z', Q0 (.inl v) z' → (∀ x, v = some x → pvOk x) → pvB 60 (0, fun _ => 0) fL aL_stuckAt kL pvEx0 1 (pvX 60 (0, fun _ => 0) fL aL_stuckAt kL pvEx0 1 (pvRt (some .int) Q) (fun _ _ _ _ => False) bL_stuckAt (fun _ => none) (fun _ _ _ _ => False) 9) (pvRt (some .int) Q) (fun _ _ _ _ => False) (bL_stuckAt (4 + 3)) (4 + 3) (pvEn as 4) (pvPush v rest) z' 0) ∧
      (∀ k z', Q0 (.inr k) z' → k ∈ [0, 3] ∧ Q (.inl (some (vI (hfF [0, 3] k)))) z') := by
  intro as z Q h hS
  unfold C_L_stuckAt at h
  split at h
  · obtain ⟨rfl, h⟩ := h
    have e := shL_stuckAt h
    obtain ⟨v1, e⟩ := e
    cases e
    refine ⟨Nat.le_of_ble_eq_true rfl, [vR 0, vI v1], [vI 0, vR 58], [vI v1, vR 0, vI 0, vR 58], wrI [0, 3] Q, rfl, Nat.le_of_ble_eq_true rfl, ⟨rfl, by decide⟩, h, ?_, fun v z' hq hok => ?_, fun k z' hq => hq⟩
    · simp only [bL_stuckAt_0, bL_stuckAt_4, bL_stuckAt_7, bL_stuckAt_18, pvE_aload_n2, pvLA_s, pvLd, pvE_iconst, pvE_aload_n0, pvE_iload_n1, pvLI_s, pvE_invokevirtual, pvC1_s, pvC2_s, pvAf_v, pvAf_x, pvPop, pvCs, pvCat, pvPush, pvSh_0, pvSh_58, pvSh_59, pvE_i2l, pvE_lastore, pvAL, pvE_goto, pvE_astore_n3, pvS1, List.length_cons, List.length_nil, pvClr_i, pvClr_r, pvClr_l, pvClr_d, pvClr_f, pvClr_n, pvE_ireturn, pvRecv_r, pvUp_nl, pvUp_same, pvUp_ap, pvSt_ap, pvX_c, pvX_ms, pvX_mn, pvE_nil, pvEn_i, pvEn_r, pvEn_l, pvEn_0, pvEn_s, pvRt, pvRv, pvTh, pvKc, pvGo, pvTgt, Int.toNat_natCast, false_and, and_false, true_and, and_true, if_true, if_false, reduceIte, reduceCtorEq, forall_const, false_or, or_false, true_or, or_true, ne_eq, not_true_eq_false, not_false_eq_true, implies_true, false_implies, Nat.reduceAdd, Nat.reduceSub, Nat.reduceMul, Nat.reduceEqDiff, Nat.reduceLT, Nat.reduceLeDiff, Int.reduceAdd, Int.reduceSub, Int.reduceMul, Int.reduceNeg, Int.reduceToNat, Int.reduceLE, Int.reduceLT, Int.reduceEq, Int.reduceNe, and_self, pvPush]
      (repeat' first | with_reducible apply And.intro | with_reducible intro _)
      all_goals first
        | omega
        | rfl
        | trivial
    rcases v with _ | (a | a | a | a | a)
    · exact hq.elim
    · simp only [wrI] at hq
      simp only [bL_stuckAt_0, bL_stuckAt_4, bL_stuckAt_7, bL_stuckAt_18, pvE_aload_n2, pvLA_s, pvLd, pvE_iconst, pvE_aload_n0, pvE_iload_n1, pvLI_s, pvE_invokevirtual, pvC1_s, pvC2_s, pvAf_v, pvAf_x, pvPop, pvCs, pvCat, pvPush, pvSh_0, pvSh_58, pvSh_59, pvE_i2l, pvE_lastore, pvAL, pvE_goto, pvE_astore_n3, pvS1, List.length_cons, List.length_nil, pvClr_i, pvClr_r, pvClr_l, pvClr_d, pvClr_f, pvClr_n, pvE_ireturn, pvRecv_r, pvUp_nl, pvUp_same, pvUp_ap, pvSt_ap, pvX_c, pvX_ms, pvX_mn, pvE_nil, pvEn_i, pvEn_r, pvEn_l, pvEn_0, pvEn_s, pvRt, pvRv, pvTh, pvKc, pvGo, pvTgt, Int.toNat_natCast, false_and, and_false, true_and, and_true, if_true, if_false, reduceIte, reduceCtorEq, forall_const, false_or, or_false, true_or, or_true, ne_eq, not_true_eq_false, not_false_eq_true, implies_true, false_implies, Nat.reduceAdd, Nat.reduceSub, Nat.reduceMul, Nat.reduceEqDiff, Nat.reduceLT, Nat.reduceLeDiff, Int.reduceAdd, Int.reduceSub, Int.reduceMul, Int.reduceNeg, Int.reduceToNat, Int.reduceLE, Int.reduceLT, Int.reduceEq, Int.reduceNe, and_self, pvPush]
      (repeat' first | with_reducible apply And.intro | with_reducible intro _)
      all_goals first
        | omega
        | exact Or.inl rfl
        | exact hq (hok _ rfl)
    · exact hq.elim
    · exact hq.elim
    · exact hq.elim
    · exact hq.elim
  · exact h.elim
theorem hdL_stuckAt : ∀ i (x : Nat × Nat × Nat × Nat) (k : Nat), ([(0, 9, 12, 21), (0, 9, 15, 80)] : List (Nat × Nat × Nat × Nat))[i]? = some x → ([0, 3] : List Nat)[i]? = some k → (x.1 ≤ 4 ∧ 4 < x.2.1 ∧ x.2.2.2 ≠ 0 ∧ pvHd cL_stuckAt 4 x.2.2.1 i) ∧ Cond.classLink "EventClockWorkbenchLaw" x.2.2.2 (pvXn k) ∈ pvTb := by
  intro i x k h1 h2
  match i, h1, h2 with
  | 0, h1, h2 => cases h1; cases h2; exact ⟨⟨by decide, by decide, by decide, ⟨3, by decide, Or.inl ⟨3, rfl, by decide +kernel, by decide +kernel, by decide +kernel⟩⟩⟩, wd_2_137⟩
  | 1, h1, h2 => cases h1; cases h2; exact ⟨⟨by decide, by decide, by decide, ⟨3, by decide, Or.inl ⟨3, rfl, by decide +kernel, by decide +kernel, by decide +kernel⟩⟩⟩, wd_4_4⟩
  | n + 2, h1, h2 => simp at h1
theorem metWL_stuckAt {l : Launch} (hf : l.stackTraces = false) : pvMetW l yL_stuckAt (Cond.codeWith yL_stuckAt cL_stuckAt 4 (some .int) [(0, 9, 12, 21), (0, 9, 15, 80)] :: pvTb) mL_stuckAt C_L_stuckAt :=
  pvMetW_of (y := yL_stuckAt) 82 2 4 [0, 3] plL coL foL (caL_stuckAt hf) rfl ⟨rfl, rfl⟩ chL_stuckAt (by decide +kernel) rfl (by decide) (by decide) (by decide) hdL_stuckAt owL_stuckAt
def bL_blockingConstraint : Nat → List (Instr × Nat)
  | 0 => [(.aload 4, 2), (.iconst 0, 1), (.aload_n 0, 1), (.iload_n 1, 1), (.iload_n 2, 1), (.iload_n 3, 1)]
  | 7 => [(.invokevirtual 85, 3)]
  | 10 => [(.i2l, 1), (.lastore, 1), (.goto 11, 3)]
  | 23 => [(.iconst 0, 1), (.ireturn, 1)]
  | _ => []
theorem bL_blockingConstraint_0 : bL_blockingConstraint 0 = [(.aload 4, 2), (.iconst 0, 1), (.aload_n 0, 1), (.iload_n 1, 1), (.iload_n 2, 1), (.iload_n 3, 1)] := rfl
theorem bL_blockingConstraint_7 : bL_blockingConstraint 7 = [(.invokevirtual 85, 3)] := rfl
theorem bL_blockingConstraint_10 : bL_blockingConstraint 10 = [(.i2l, 1), (.lastore, 1), (.goto 11, 3)] := rfl
theorem bL_blockingConstraint_23 : bL_blockingConstraint 23 = [(.iconst 0, 1), (.ireturn, 1)] := rfl
def aL_blockingConstraint : pvCa
  | 85 => some (4, false, 8, 0, C_X9_blockingConstraint)
  | _ => none
def mL_blockingConstraint : Room := { frames := 9, cells := 1, slots := 6, locals := 148 }
theorem pnL_blockingConstraint : pvPn yL_blockingConstraint = some 5 := by decide +kernel
theorem caL_blockingConstraint {l : Launch} (hf : l.stackTraces = false) : pvCaOk l mL_blockingConstraint "EventClockWorkbenchLaw" pvTb 60 aL_blockingConstraint := by
  refine pvCaOk_i fun ix n b ci co C h => ?_
  unfold aL_blockingConstraint at h
  split at h
  · cases h; exact pvCe_V (k := 3) (T := TX9) (N := 11) (metX9_blockingConstraint hf) rfl wd_1_1 rfl wd_4_63 wd_4_64 wd_4_65 pnX9_blockingConstraint rfl wd_4_66
  · cases h
set_option maxRecDepth 100000 in
theorem chL_blockingConstraint : ∀ pc, pvChain cL_blockingConstraint pc (bL_blockingConstraint pc) := by
  intro pc
  unfold bL_blockingConstraint
  split <;> first | exact True.intro | exact pvChain_of (by decide +kernel)
theorem shL_blockingConstraint {as : List pvV} {z : pvM} {Q : pvO → pvM → Prop} (h : C_X9_blockingConstraint as z Q) : ∃ v1 v2 v3 : Int, as = [vR 0, vI v1, vI v2, vI v3] := by
  unfold C_X9_blockingConstraint at h
  split at h
  · obtain ⟨rfl, -⟩ := h
    exact ⟨_, _, _, rfl⟩
  · exact h.elim
set_option maxRecDepth 100000 in
set_option maxHeartbeats 4000000 in
theorem owL_blockingConstraint : ∀ as z Q, C_L_blockingConstraint as z Q → pvOkS as → pvCs as ≤ 6 ∧ ∃ (a9 rest st9 : List pvV) (Q0 : pvO → pvM → Prop), pvPop 4 st9 [] = some (a9, rest) ∧ pvCs rest ≤ 8 ∧ pvRecv 60 8 a9 ∧ C_X9_blockingConstraint a9 z Q0 ∧
      pvB 60 (0, fun _ => 0) fL aL_blockingConstraint kL pvEx0 1 (fun pc ls' st z' g => pc = 7 ∧ ls' = pvEn as 6 ∧ st = st9 ∧ z' = z ∧ g = 0) (fun _ _ _ => False) (fun _ _ _ _ => False) (bL_blockingConstraint 0) 0 (pvEn as 6) [] z 0 ∧
      (∀ v z', Q0 (.inl v) z' → (∀ x, v = some x → pvOk x) → pvB 60 (0, fun _ => 0) fL aL_blockingConstraint kL pvEx0 1 (pvX 60 (0, fun _ => 0) fL aL_blockingConstraint kL pvEx0 1 (pvRt (some .int) Q) (fun _ _ _ _ => False) bL_blockingConstraint (fun _ => none) (fun _ _ _ _ => False) 9) (pvRt (some .int) Q) (fun _ _ _ _ => False) (bL_blockingConstraint (7 + 3)) (7 + 3) (pvEn as 6) (pvPush v rest) z' 0) ∧
      (∀ k z', Q0 (.inr k) z' → k ∈ [0, 1] ∧ Q (.inl (some (vI (hfF [0, 1] k)))) z') := by
  intro as z Q h hS
  unfold C_L_blockingConstraint at h
  split at h
  · obtain ⟨rfl, h⟩ := h
    have e := shL_blockingConstraint h
    obtain ⟨v1, v2, v3, e⟩ := e
    cases e
    refine ⟨Nat.le_of_ble_eq_true rfl, [vR 0, vI v1, vI v2, vI v3], [vI 0, vR 58], [vI v3, vI v2, vI v1, vR 0, vI 0, vR 58], wrI [0, 1] Q, rfl, Nat.le_of_ble_eq_true rfl, ⟨rfl, by decide⟩, h, ?_, fun v z' hq hok => ?_, fun k z' hq => hq⟩
    · simp only [bL_blockingConstraint_0, bL_blockingConstraint_7, bL_blockingConstraint_10, bL_blockingConstraint_23, pvE_aload, pvLA_s, pvLd, pvE_iconst, pvE_aload_n0, pvE_iload_n1, pvLI_s, pvE_iload_n2, pvE_iload_n3, pvE_invokevirtual, pvC1_s, pvC2_s, pvAf_v, pvAf_x, pvPop, pvCs, pvCat, pvPush, pvSh_0, pvSh_58, pvSh_59, pvE_i2l, pvE_lastore, pvAL, pvE_goto, pvE_astore, pvS1, List.length_cons, List.length_nil, pvClr_i, pvClr_r, pvClr_l, pvClr_d, pvClr_f, pvClr_n, pvE_ireturn, pvRecv_r, pvUp_nl, pvUp_same, pvUp_ap, pvSt_ap, pvX_c, pvX_ms, pvX_mn, pvE_nil, pvEn_i, pvEn_r, pvEn_l, pvEn_0, pvEn_s, pvRt, pvRv, pvTh, pvKc, pvGo, pvTgt, Int.toNat_natCast, false_and, and_false, true_and, and_true, if_true, if_false, reduceIte, reduceCtorEq, forall_const, false_or, or_false, true_or, or_true, ne_eq, not_true_eq_false, not_false_eq_true, implies_true, false_implies, Nat.reduceAdd, Nat.reduceSub, Nat.reduceMul, Nat.reduceEqDiff, Nat.reduceLT, Nat.reduceLeDiff, Int.reduceAdd, Int.reduceSub, Int.reduceMul, Int.reduceNeg, Int.reduceToNat, Int.reduceLE, Int.reduceLT, Int.reduceEq, Int.reduceNe, and_self, pvPush]
      (repeat' first | with_reducible apply And.intro | with_reducible intro _)
      all_goals first
        | omega
        | rfl
        | trivial
    rcases v with _ | (a | a | a | a | a)
    · exact hq.elim
    · simp only [wrI] at hq
      simp only [bL_blockingConstraint_0, bL_blockingConstraint_7, bL_blockingConstraint_10, bL_blockingConstraint_23, pvE_aload, pvLA_s, pvLd, pvE_iconst, pvE_aload_n0, pvE_iload_n1, pvLI_s, pvE_iload_n2, pvE_iload_n3, pvE_invokevirtual, pvC1_s, pvC2_s, pvAf_v, pvAf_x, pvPop, pvCs, pvCat, pvPush, pvSh_0, pvSh_58, pvSh_59, pvE_i2l, pvE_lastore, pvAL, pvE_goto, pvE_astore, pvS1, List.length_cons, List.length_nil, pvClr_i, pvClr_r, pvClr_l, pvClr_d, pvClr_f, pvClr_n, pvE_ireturn, pvRecv_r, pvUp_nl, pvUp_same, pvUp_ap, pvSt_ap, pvX_c, pvX_ms, pvX_mn, pvE_nil, pvEn_i, pvEn_r, pvEn_l, pvEn_0, pvEn_s, pvRt, pvRv, pvTh, pvKc, pvGo, pvTgt, Int.toNat_natCast, false_and, and_false, true_and, and_true, if_true, if_false, reduceIte, reduceCtorEq, forall_const, false_or, or_false, true_or, or_true, ne_eq, not_true_eq_false, not_false_eq_true, implies_true, false_implies, Nat.reduceAdd, Nat.reduceSub, Nat.reduceMul, Nat.reduceEqDiff, Nat.reduceLT, Nat.reduceLeDiff, Int.reduceAdd, Int.reduceSub, Int.reduceMul, Int.reduceNeg, Int.reduceToNat, Int.reduceLE, Int.reduceLT, Int.reduceEq, Int.reduceNe, and_self, pvPush]
      (repeat' first | with_reducible apply And.intro | with_reducible intro _)
      all_goals first
        | omega
        | exact Or.inl rfl
        | exact hq (hok _ rfl)
    · exact hq.elim
    · exact hq.elim
    · exact hq.elim
    · exact hq.elim
  · exact h.elim
theorem hdL_blockingConstraint : ∀ i (x : Nat × Nat × Nat × Nat) (k : Nat), ([(0, 12, 15, 21), (0, 12, 19, 13)] : List (Nat × Nat × Nat × Nat))[i]? = some x → ([0, 1] : List Nat)[i]? = some k → (x.1 ≤ 7 ∧ 7 < x.2.1 ∧ x.2.2.2 ≠ 0 ∧ pvHd cL_blockingConstraint 6 x.2.2.1 i) ∧ Cond.classLink "EventClockWorkbenchLaw" x.2.2.2 (pvXn k) ∈ pvTb := by
  intro i x k h1 h2
  match i, h1, h2 with
  | 0, h1, h2 => cases h1; cases h2; exact ⟨⟨by decide, by decide, by decide, ⟨5, by decide, Or.inr ⟨by decide +kernel, by decide +kernel, by decide +kernel⟩⟩⟩, wd_2_137⟩
  | 1, h1, h2 => cases h1; cases h2; exact ⟨⟨by decide, by decide, by decide, ⟨5, by decide, Or.inr ⟨by decide +kernel, by decide +kernel, by decide +kernel⟩⟩⟩, wd_2_31⟩
  | n + 2, h1, h2 => simp at h1
theorem metWL_blockingConstraint {l : Launch} (hf : l.stackTraces = false) : pvMetW l yL_blockingConstraint (Cond.codeWith yL_blockingConstraint cL_blockingConstraint 6 (some .int) [(0, 12, 15, 21), (0, 12, 19, 13)] :: pvTb) mL_blockingConstraint C_L_blockingConstraint :=
  pvMetW_of (y := yL_blockingConstraint) 85 4 7 [0, 1] plL coL foL (caL_blockingConstraint hf) rfl ⟨rfl, rfl⟩ chL_blockingConstraint (by decide +kernel) rfl (by decide) (by decide) (by decide) hdL_blockingConstraint owL_blockingConstraint
def bL_deterministicStates : Nat → List (Instr × Nat)
  | 0 => [(.aload_n 2, 1), (.iconst 0, 1), (.aload_n 0, 1), (.iload_n 1, 1)]
  | 4 => [(.invokevirtual 88, 3)]
  | 7 => [(.i2l, 1), (.lastore, 1), (.goto 6, 3)]
  | 15 => [(.iconst 0, 1), (.ireturn, 1)]
  | _ => []
theorem bL_deterministicStates_0 : bL_deterministicStates 0 = [(.aload_n 2, 1), (.iconst 0, 1), (.aload_n 0, 1), (.iload_n 1, 1)] := rfl
theorem bL_deterministicStates_4 : bL_deterministicStates 4 = [(.invokevirtual 88, 3)] := rfl
theorem bL_deterministicStates_7 : bL_deterministicStates 7 = [(.i2l, 1), (.lastore, 1), (.goto 6, 3)] := rfl
theorem bL_deterministicStates_15 : bL_deterministicStates 15 = [(.iconst 0, 1), (.ireturn, 1)] := rfl
def aL_deterministicStates : pvCa
  | 88 => some (2, false, 8, 0, C_X9_deterministicStates)
  | _ => none
def mL_deterministicStates : Room := { frames := 8, cells := 1, slots := 6, locals := 134 }
theorem pnL_deterministicStates : pvPn yL_deterministicStates = some 3 := by decide +kernel
theorem caL_deterministicStates {l : Launch} (hf : l.stackTraces = false) : pvCaOk l mL_deterministicStates "EventClockWorkbenchLaw" pvTb 60 aL_deterministicStates := by
  refine pvCaOk_i fun ix n b ci co C h => ?_
  unfold aL_deterministicStates at h
  split at h
  · cases h; exact pvCe_V (k := 1) (T := TX9) (N := 11) (metX9_deterministicStates hf) rfl wd_1_1 rfl wd_4_79 wd_4_80 wd_4_81 pnX9_deterministicStates rfl wd_4_82
  · cases h
set_option maxRecDepth 100000 in
theorem chL_deterministicStates : ∀ pc, pvChain cL_deterministicStates pc (bL_deterministicStates pc) := by
  intro pc
  unfold bL_deterministicStates
  split <;> first | exact True.intro | exact pvChain_of (by decide +kernel)
theorem shL_deterministicStates {as : List pvV} {z : pvM} {Q : pvO → pvM → Prop} (h : C_X9_deterministicStates as z Q) : ∃ v1 : Int, as = [vR 0, vI v1] := by
  unfold C_X9_deterministicStates at h
  split at h
  · obtain ⟨rfl, -⟩ := h
    exact ⟨_, rfl⟩
  · exact h.elim
set_option maxRecDepth 100000 in
set_option maxHeartbeats 4000000 in
theorem owL_deterministicStates : ∀ as z Q, C_L_deterministicStates as z Q → pvOkS as → pvCs as ≤ 4 ∧ ∃ (a9 rest st9 : List pvV) (Q0 : pvO → pvM → Prop), pvPop 2 st9 [] = some (a9, rest) ∧ pvCs rest ≤ 8 ∧ pvRecv 60 8 a9 ∧ C_X9_deterministicStates a9 z Q0 ∧
      pvB 60 (0, fun _ => 0) fL aL_deterministicStates kL pvEx0 1 (fun pc ls' st z' g => pc = 4 ∧ ls' = pvEn as 4 ∧ st = st9 ∧ z' = z ∧ g = 0) (fun _ _ _ => False) (fun _ _ _ _ => False) (bL_deterministicStates 0) 0 (pvEn as 4) [] z 0 ∧
      (∀ v z', Q0 (.inl v) z' → (∀ x, v = some x → pvOk x) → pvB 60 (0, fun _ => 0) fL aL_deterministicStates kL pvEx0 1 (pvX 60 (0, fun _ => 0) fL aL_deterministicStates kL pvEx0 1 (pvRt (some .int) Q) (fun _ _ _ _ => False) bL_deterministicStates (fun _ => none) (fun _ _ _ _ => False) 9) (pvRt (some .int) Q) (fun _ _ _ _ => False) (bL_deterministicStates (4 + 3)) (4 + 3) (pvEn as 4) (pvPush v rest) z' 0) ∧
      (∀ k z', Q0 (.inr k) z' → k ∈ [0] ∧ Q (.inl (some (vI (hfF [0] k)))) z') := by
  intro as z Q h hS
  unfold C_L_deterministicStates at h
  split at h
  · obtain ⟨rfl, h⟩ := h
    have e := shL_deterministicStates h
    obtain ⟨v1, e⟩ := e
    cases e
    refine ⟨Nat.le_of_ble_eq_true rfl, [vR 0, vI v1], [vI 0, vR 58], [vI v1, vR 0, vI 0, vR 58], wrI [0] Q, rfl, Nat.le_of_ble_eq_true rfl, ⟨rfl, by decide⟩, h, ?_, fun v z' hq hok => ?_, fun k z' hq => hq⟩
    · simp only [bL_deterministicStates_0, bL_deterministicStates_4, bL_deterministicStates_7, bL_deterministicStates_15, pvE_aload_n2, pvLA_s, pvLd, pvE_iconst, pvE_aload_n0, pvE_iload_n1, pvLI_s, pvE_invokevirtual, pvC1_s, pvC2_s, pvAf_v, pvAf_x, pvPop, pvCs, pvCat, pvPush, pvSh_0, pvSh_58, pvSh_59, pvE_i2l, pvE_lastore, pvAL, pvE_goto, pvE_astore_n3, pvS1, List.length_cons, List.length_nil, pvClr_i, pvClr_r, pvClr_l, pvClr_d, pvClr_f, pvClr_n, pvE_ireturn, pvRecv_r, pvUp_nl, pvUp_same, pvUp_ap, pvSt_ap, pvX_c, pvX_ms, pvX_mn, pvE_nil, pvEn_i, pvEn_r, pvEn_l, pvEn_0, pvEn_s, pvRt, pvRv, pvTh, pvKc, pvGo, pvTgt, Int.toNat_natCast, false_and, and_false, true_and, and_true, if_true, if_false, reduceIte, reduceCtorEq, forall_const, false_or, or_false, true_or, or_true, ne_eq, not_true_eq_false, not_false_eq_true, implies_true, false_implies, Nat.reduceAdd, Nat.reduceSub, Nat.reduceMul, Nat.reduceEqDiff, Nat.reduceLT, Nat.reduceLeDiff, Int.reduceAdd, Int.reduceSub, Int.reduceMul, Int.reduceNeg, Int.reduceToNat, Int.reduceLE, Int.reduceLT, Int.reduceEq, Int.reduceNe, and_self, pvPush]
      (repeat' first | with_reducible apply And.intro | with_reducible intro _)
      all_goals first
        | omega
        | rfl
        | trivial
    rcases v with _ | (a | a | a | a | a)
    · exact hq.elim
    · simp only [wrI] at hq
      simp only [bL_deterministicStates_0, bL_deterministicStates_4, bL_deterministicStates_7, bL_deterministicStates_15, pvE_aload_n2, pvLA_s, pvLd, pvE_iconst, pvE_aload_n0, pvE_iload_n1, pvLI_s, pvE_invokevirtual, pvC1_s, pvC2_s, pvAf_v, pvAf_x, pvPop, pvCs, pvCat, pvPush, pvSh_0, pvSh_58, pvSh_59, pvE_i2l, pvE_lastore, pvAL, pvE_goto, pvE_astore_n3, pvS1, List.length_cons, List.length_nil, pvClr_i, pvClr_r, pvClr_l, pvClr_d, pvClr_f, pvClr_n, pvE_ireturn, pvRecv_r, pvUp_nl, pvUp_same, pvUp_ap, pvSt_ap, pvX_c, pvX_ms, pvX_mn, pvE_nil, pvEn_i, pvEn_r, pvEn_l, pvEn_0, pvEn_s, pvRt, pvRv, pvTh, pvKc, pvGo, pvTgt, Int.toNat_natCast, false_and, and_false, true_and, and_true, if_true, if_false, reduceIte, reduceCtorEq, forall_const, false_or, or_false, true_or, or_true, ne_eq, not_true_eq_false, not_false_eq_true, implies_true, false_implies, Nat.reduceAdd, Nat.reduceSub, Nat.reduceMul, Nat.reduceEqDiff, Nat.reduceLT, Nat.reduceLeDiff, Int.reduceAdd, Int.reduceSub, Int.reduceMul, Int.reduceNeg, Int.reduceToNat, Int.reduceLE, Int.reduceLT, Int.reduceEq, Int.reduceNe, and_self, pvPush]
      (repeat' first | with_reducible apply And.intro | with_reducible intro _)
      all_goals first
        | omega
        | exact Or.inl rfl
        | exact hq (hok _ rfl)
    · exact hq.elim
    · exact hq.elim
    · exact hq.elim
    · exact hq.elim
  · exact h.elim
theorem hdL_deterministicStates : ∀ i (x : Nat × Nat × Nat × Nat) (k : Nat), ([(0, 9, 12, 21)] : List (Nat × Nat × Nat × Nat))[i]? = some x → ([0] : List Nat)[i]? = some k → (x.1 ≤ 4 ∧ 4 < x.2.1 ∧ x.2.2.2 ≠ 0 ∧ pvHd cL_deterministicStates 4 x.2.2.1 i) ∧ Cond.classLink "EventClockWorkbenchLaw" x.2.2.2 (pvXn k) ∈ pvTb := by
  intro i x k h1 h2
  match i, h1, h2 with
  | 0, h1, h2 => cases h1; cases h2; exact ⟨⟨by decide, by decide, by decide, ⟨3, by decide, Or.inl ⟨3, rfl, by decide +kernel, by decide +kernel, by decide +kernel⟩⟩⟩, wd_2_137⟩
  | n + 1, h1, h2 => simp at h1
theorem metWL_deterministicStates {l : Launch} (hf : l.stackTraces = false) : pvMetW l yL_deterministicStates (Cond.codeWith yL_deterministicStates cL_deterministicStates 4 (some .int) [(0, 9, 12, 21)] :: pvTb) mL_deterministicStates C_L_deterministicStates :=
  pvMetW_of (y := yL_deterministicStates) 88 2 4 [0] plL coL foL (caL_deterministicStates hf) rfl ⟨rfl, rfl⟩ chL_deterministicStates (by decide +kernel) rfl (by decide) (by decide) (by decide) hdL_deterministicStates owL_deterministicStates
def bL_deterministicSet : Nat → List (Instr × Nat)
  | 0 => [(.aload_n 3, 1), (.iconst 0, 1), (.aload_n 0, 1), (.iload_n 1, 1), (.iload_n 2, 1)]
  | 5 => [(.invokevirtual 91, 3)]
  | 8 => [(.i2l, 1), (.lastore, 1), (.goto 7, 3)]
  | 17 => [(.iconst 0, 1), (.ireturn, 1)]
  | _ => []
theorem bL_deterministicSet_0 : bL_deterministicSet 0 = [(.aload_n 3, 1), (.iconst 0, 1), (.aload_n 0, 1), (.iload_n 1, 1), (.iload_n 2, 1)] := rfl
theorem bL_deterministicSet_5 : bL_deterministicSet 5 = [(.invokevirtual 91, 3)] := rfl
theorem bL_deterministicSet_8 : bL_deterministicSet 8 = [(.i2l, 1), (.lastore, 1), (.goto 7, 3)] := rfl
theorem bL_deterministicSet_17 : bL_deterministicSet 17 = [(.iconst 0, 1), (.ireturn, 1)] := rfl
def aL_deterministicSet : pvCa
  | 91 => some (3, false, 8, 0, C_X9_deterministicSet)
  | _ => none
def mL_deterministicSet : Room := { frames := 9, cells := 1, slots := 6, locals := 157 }
theorem pnL_deterministicSet : pvPn yL_deterministicSet = some 4 := by decide +kernel
theorem caL_deterministicSet {l : Launch} (hf : l.stackTraces = false) : pvCaOk l mL_deterministicSet "EventClockWorkbenchLaw" pvTb 60 aL_deterministicSet := by
  refine pvCaOk_i fun ix n b ci co C h => ?_
  unfold aL_deterministicSet at h
  split at h
  · cases h; exact pvCe_V (k := 2) (T := TX9) (N := 11) (metX9_deterministicSet hf) rfl wd_1_1 rfl wd_4_120 wd_4_121 wd_4_122 pnX9_deterministicSet rfl wd_4_123
  · cases h
set_option maxRecDepth 100000 in
theorem chL_deterministicSet : ∀ pc, pvChain cL_deterministicSet pc (bL_deterministicSet pc) := by
  intro pc
  unfold bL_deterministicSet
  split <;> first | exact True.intro | exact pvChain_of (by decide +kernel)
theorem shL_deterministicSet {as : List pvV} {z : pvM} {Q : pvO → pvM → Prop} (h : C_X9_deterministicSet as z Q) : ∃ v1 v2 : Int, as = [vR 0, vI v1, vI v2] := by
  unfold C_X9_deterministicSet at h
  split at h
  · obtain ⟨rfl, -⟩ := h
    exact ⟨_, _, rfl⟩
  · exact h.elim
set_option maxRecDepth 100000 in
set_option maxHeartbeats 4000000 in
theorem owL_deterministicSet : ∀ as z Q, C_L_deterministicSet as z Q → pvOkS as → pvCs as ≤ 5 ∧ ∃ (a9 rest st9 : List pvV) (Q0 : pvO → pvM → Prop), pvPop 3 st9 [] = some (a9, rest) ∧ pvCs rest ≤ 8 ∧ pvRecv 60 8 a9 ∧ C_X9_deterministicSet a9 z Q0 ∧
      pvB 60 (0, fun _ => 0) fL aL_deterministicSet kL pvEx0 1 (fun pc ls' st z' g => pc = 5 ∧ ls' = pvEn as 5 ∧ st = st9 ∧ z' = z ∧ g = 0) (fun _ _ _ => False) (fun _ _ _ _ => False) (bL_deterministicSet 0) 0 (pvEn as 5) [] z 0 ∧
      (∀ v z', Q0 (.inl v) z' → (∀ x, v = some x → pvOk x) → pvB 60 (0, fun _ => 0) fL aL_deterministicSet kL pvEx0 1 (pvX 60 (0, fun _ => 0) fL aL_deterministicSet kL pvEx0 1 (pvRt (some .int) Q) (fun _ _ _ _ => False) bL_deterministicSet (fun _ => none) (fun _ _ _ _ => False) 9) (pvRt (some .int) Q) (fun _ _ _ _ => False) (bL_deterministicSet (5 + 3)) (5 + 3) (pvEn as 5) (pvPush v rest) z' 0) ∧
      (∀ k z', Q0 (.inr k) z' → k ∈ [0] ∧ Q (.inl (some (vI (hfF [0] k)))) z') := by
  intro as z Q h hS
  unfold C_L_deterministicSet at h
  split at h
  · obtain ⟨rfl, h⟩ := h
    have e := shL_deterministicSet h
    obtain ⟨v1, v2, e⟩ := e
    cases e
    refine ⟨Nat.le_of_ble_eq_true rfl, [vR 0, vI v1, vI v2], [vI 0, vR 58], [vI v2, vI v1, vR 0, vI 0, vR 58], wrI [0] Q, rfl, Nat.le_of_ble_eq_true rfl, ⟨rfl, by decide⟩, h, ?_, fun v z' hq hok => ?_, fun k z' hq => hq⟩
    · simp only [bL_deterministicSet_0, bL_deterministicSet_5, bL_deterministicSet_8, bL_deterministicSet_17, pvE_aload_n3, pvLA_s, pvLd, pvE_iconst, pvE_aload_n0, pvE_iload_n1, pvLI_s, pvE_iload_n2, pvE_invokevirtual, pvC1_s, pvC2_s, pvAf_v, pvAf_x, pvPop, pvCs, pvCat, pvPush, pvSh_0, pvSh_58, pvSh_59, pvE_i2l, pvE_lastore, pvAL, pvE_goto, pvE_astore, pvS1, List.length_cons, List.length_nil, pvClr_i, pvClr_r, pvClr_l, pvClr_d, pvClr_f, pvClr_n, pvE_ireturn, pvRecv_r, pvUp_nl, pvUp_same, pvUp_ap, pvSt_ap, pvX_c, pvX_ms, pvX_mn, pvE_nil, pvEn_i, pvEn_r, pvEn_l, pvEn_0, pvEn_s, pvRt, pvRv, pvTh, pvKc, pvGo, pvTgt, Int.toNat_natCast, false_and, and_false, true_and, and_true, if_true, if_false, reduceIte, reduceCtorEq, forall_const, false_or, or_false, true_or, or_true, ne_eq, not_true_eq_false, not_false_eq_true, implies_true, false_implies, Nat.reduceAdd, Nat.reduceSub, Nat.reduceMul, Nat.reduceEqDiff, Nat.reduceLT, Nat.reduceLeDiff, Int.reduceAdd, Int.reduceSub, Int.reduceMul, Int.reduceNeg, Int.reduceToNat, Int.reduceLE, Int.reduceLT, Int.reduceEq, Int.reduceNe, and_self, pvPush]
      (repeat' first | with_reducible apply And.intro | with_reducible intro _)
      all_goals first
        | omega
        | rfl
        | trivial
    rcases v with _ | (a | a | a | a | a)
    · exact hq.elim
    · simp only [wrI] at hq
      simp only [bL_deterministicSet_0, bL_deterministicSet_5, bL_deterministicSet_8, bL_deterministicSet_17, pvE_aload_n3, pvLA_s, pvLd, pvE_iconst, pvE_aload_n0, pvE_iload_n1, pvLI_s, pvE_iload_n2, pvE_invokevirtual, pvC1_s, pvC2_s, pvAf_v, pvAf_x, pvPop, pvCs, pvCat, pvPush, pvSh_0, pvSh_58, pvSh_59, pvE_i2l, pvE_lastore, pvAL, pvE_goto, pvE_astore, pvS1, List.length_cons, List.length_nil, pvClr_i, pvClr_r, pvClr_l, pvClr_d, pvClr_f, pvClr_n, pvE_ireturn, pvRecv_r, pvUp_nl, pvUp_same, pvUp_ap, pvSt_ap, pvX_c, pvX_ms, pvX_mn, pvE_nil, pvEn_i, pvEn_r, pvEn_l, pvEn_0, pvEn_s, pvRt, pvRv, pvTh, pvKc, pvGo, pvTgt, Int.toNat_natCast, false_and, and_false, true_and, and_true, if_true, if_false, reduceIte, reduceCtorEq, forall_const, false_or, or_false, true_or, or_true, ne_eq, not_true_eq_false, not_false_eq_true, implies_true, false_implies, Nat.reduceAdd, Nat.reduceSub, Nat.reduceMul, Nat.reduceEqDiff, Nat.reduceLT, Nat.reduceLeDiff, Int.reduceAdd, Int.reduceSub, Int.reduceMul, Int.reduceNeg, Int.reduceToNat, Int.reduceLE, Int.reduceLT, Int.reduceEq, Int.reduceNe, and_self, pvPush]
      (repeat' first | with_reducible apply And.intro | with_reducible intro _)
      all_goals first
        | omega
        | exact Or.inl rfl
        | exact hq (hok _ rfl)
    · exact hq.elim
    · exact hq.elim
    · exact hq.elim
    · exact hq.elim
  · exact h.elim
theorem hdL_deterministicSet : ∀ i (x : Nat × Nat × Nat × Nat) (k : Nat), ([(0, 10, 13, 21)] : List (Nat × Nat × Nat × Nat))[i]? = some x → ([0] : List Nat)[i]? = some k → (x.1 ≤ 5 ∧ 5 < x.2.1 ∧ x.2.2.2 ≠ 0 ∧ pvHd cL_deterministicSet 5 x.2.2.1 i) ∧ Cond.classLink "EventClockWorkbenchLaw" x.2.2.2 (pvXn k) ∈ pvTb := by
  intro i x k h1 h2
  match i, h1, h2 with
  | 0, h1, h2 => cases h1; cases h2; exact ⟨⟨by decide, by decide, by decide, ⟨4, by decide, Or.inr ⟨by decide +kernel, by decide +kernel, by decide +kernel⟩⟩⟩, wd_2_137⟩
  | n + 1, h1, h2 => simp at h1
theorem metWL_deterministicSet {l : Launch} (hf : l.stackTraces = false) : pvMetW l yL_deterministicSet (Cond.codeWith yL_deterministicSet cL_deterministicSet 5 (some .int) [(0, 10, 13, 21)] :: pvTb) mL_deterministicSet C_L_deterministicSet :=
  pvMetW_of (y := yL_deterministicSet) 91 3 5 [0] plL coL foL (caL_deterministicSet hf) rfl ⟨rfl, rfl⟩ chL_deterministicSet (by decide +kernel) rfl (by decide) (by decide) (by decide) hdL_deterministicSet owL_deterministicSet
def bL_branches : Nat → List (Instr × Nat)
  | 0 => [(.aload 4, 2), (.iconst 0, 1), (.aload_n 0, 1), (.iload_n 1, 1), (.iload_n 2, 1), (.iload_n 3, 1)]
  | 7 => [(.invokevirtual 94, 3)]
  | 10 => [(.i2l, 1), (.lastore, 1), (.goto 7, 3)]
  | 19 => [(.iconst 0, 1), (.ireturn, 1)]
  | _ => []
theorem bL_branches_0 : bL_branches 0 = [(.aload 4, 2), (.iconst 0, 1), (.aload_n 0, 1), (.iload_n 1, 1), (.iload_n 2, 1), (.iload_n 3, 1)] := rfl
theorem bL_branches_7 : bL_branches 7 = [(.invokevirtual 94, 3)] := rfl
theorem bL_branches_10 : bL_branches 10 = [(.i2l, 1), (.lastore, 1), (.goto 7, 3)] := rfl
theorem bL_branches_19 : bL_branches 19 = [(.iconst 0, 1), (.ireturn, 1)] := rfl
def aL_branches : pvCa
  | 94 => some (4, false, 8, 0, C_X9_branches)
  | _ => none
def mL_branches : Room := { frames := 9, cells := 1, slots := 6, locals := 158 }
theorem pnL_branches : pvPn yL_branches = some 5 := by decide +kernel
theorem caL_branches {l : Launch} (hf : l.stackTraces = false) : pvCaOk l mL_branches "EventClockWorkbenchLaw" pvTb 60 aL_branches := by
  refine pvCaOk_i fun ix n b ci co C h => ?_
  unfold aL_branches at h
  split at h
  · cases h; exact pvCe_V (k := 3) (T := TX9) (N := 11) (metX9_branches hf) rfl wd_1_1 rfl wd_4_135 wd_4_136 wd_4_137 pnX9_branches rfl wd_4_138
  · cases h
set_option maxRecDepth 100000 in
theorem chL_branches : ∀ pc, pvChain cL_branches pc (bL_branches pc) := by
  intro pc
  unfold bL_branches
  split <;> first | exact True.intro | exact pvChain_of (by decide +kernel)
theorem shL_branches {as : List pvV} {z : pvM} {Q : pvO → pvM → Prop} (h : C_X9_branches as z Q) : ∃ v1 v2 v3 : Int, as = [vR 0, vI v1, vI v2, vI v3] := by
  unfold C_X9_branches at h
  split at h
  · obtain ⟨rfl, -⟩ := h
    exact ⟨_, _, _, rfl⟩
  · exact h.elim
set_option maxRecDepth 100000 in
set_option maxHeartbeats 4000000 in
theorem owL_branches : ∀ as z Q, C_L_branches as z Q → pvOkS as → pvCs as ≤ 6 ∧ ∃ (a9 rest st9 : List pvV) (Q0 : pvO → pvM → Prop), pvPop 4 st9 [] = some (a9, rest) ∧ pvCs rest ≤ 8 ∧ pvRecv 60 8 a9 ∧ C_X9_branches a9 z Q0 ∧
      pvB 60 (0, fun _ => 0) fL aL_branches kL pvEx0 1 (fun pc ls' st z' g => pc = 7 ∧ ls' = pvEn as 6 ∧ st = st9 ∧ z' = z ∧ g = 0) (fun _ _ _ => False) (fun _ _ _ _ => False) (bL_branches 0) 0 (pvEn as 6) [] z 0 ∧
      (∀ v z', Q0 (.inl v) z' → (∀ x, v = some x → pvOk x) → pvB 60 (0, fun _ => 0) fL aL_branches kL pvEx0 1 (pvX 60 (0, fun _ => 0) fL aL_branches kL pvEx0 1 (pvRt (some .int) Q) (fun _ _ _ _ => False) bL_branches (fun _ => none) (fun _ _ _ _ => False) 9) (pvRt (some .int) Q) (fun _ _ _ _ => False) (bL_branches (7 + 3)) (7 + 3) (pvEn as 6) (pvPush v rest) z' 0) ∧
      (∀ k z', Q0 (.inr k) z' → k ∈ [0] ∧ Q (.inl (some (vI (hfF [0] k)))) z') := by
  intro as z Q h hS
  unfold C_L_branches at h
  split at h
  · obtain ⟨rfl, h⟩ := h
    have e := shL_branches h
    obtain ⟨v1, v2, v3, e⟩ := e
    cases e
    refine ⟨Nat.le_of_ble_eq_true rfl, [vR 0, vI v1, vI v2, vI v3], [vI 0, vR 58], [vI v3, vI v2, vI v1, vR 0, vI 0, vR 58], wrI [0] Q, rfl, Nat.le_of_ble_eq_true rfl, ⟨rfl, by decide⟩, h, ?_, fun v z' hq hok => ?_, fun k z' hq => hq⟩
    · simp only [bL_branches_0, bL_branches_7, bL_branches_10, bL_branches_19, pvE_aload, pvLA_s, pvLd, pvE_iconst, pvE_aload_n0, pvE_iload_n1, pvLI_s, pvE_iload_n2, pvE_iload_n3, pvE_invokevirtual, pvC1_s, pvC2_s, pvAf_v, pvAf_x, pvPop, pvCs, pvCat, pvPush, pvSh_0, pvSh_58, pvSh_59, pvE_i2l, pvE_lastore, pvAL, pvE_goto, pvE_astore, pvS1, List.length_cons, List.length_nil, pvClr_i, pvClr_r, pvClr_l, pvClr_d, pvClr_f, pvClr_n, pvE_ireturn, pvRecv_r, pvUp_nl, pvUp_same, pvUp_ap, pvSt_ap, pvX_c, pvX_ms, pvX_mn, pvE_nil, pvEn_i, pvEn_r, pvEn_l, pvEn_0, pvEn_s, pvRt, pvRv, pvTh, pvKc, pvGo, pvTgt, Int.toNat_natCast, false_and, and_false, true_and, and_true, if_true, if_false, reduceIte, reduceCtorEq, forall_const, false_or, or_false, true_or, or_true, ne_eq, not_true_eq_false, not_false_eq_true, implies_true, false_implies, Nat.reduceAdd, Nat.reduceSub, Nat.reduceMul, Nat.reduceEqDiff, Nat.reduceLT, Nat.reduceLeDiff, Int.reduceAdd, Int.reduceSub, Int.reduceMul, Int.reduceNeg, Int.reduceToNat, Int.reduceLE, Int.reduceLT, Int.reduceEq, Int.reduceNe, and_self, pvPush]
      (repeat' first | with_reducible apply And.intro | with_reducible intro _)
      all_goals first
        | omega
        | rfl
        | trivial
    rcases v with _ | (a | a | a | a | a)
    · exact hq.elim
    · simp only [wrI] at hq
      simp only [bL_branches_0, bL_branches_7, bL_branches_10, bL_branches_19, pvE_aload, pvLA_s, pvLd, pvE_iconst, pvE_aload_n0, pvE_iload_n1, pvLI_s, pvE_iload_n2, pvE_iload_n3, pvE_invokevirtual, pvC1_s, pvC2_s, pvAf_v, pvAf_x, pvPop, pvCs, pvCat, pvPush, pvSh_0, pvSh_58, pvSh_59, pvE_i2l, pvE_lastore, pvAL, pvE_goto, pvE_astore, pvS1, List.length_cons, List.length_nil, pvClr_i, pvClr_r, pvClr_l, pvClr_d, pvClr_f, pvClr_n, pvE_ireturn, pvRecv_r, pvUp_nl, pvUp_same, pvUp_ap, pvSt_ap, pvX_c, pvX_ms, pvX_mn, pvE_nil, pvEn_i, pvEn_r, pvEn_l, pvEn_0, pvEn_s, pvRt, pvRv, pvTh, pvKc, pvGo, pvTgt, Int.toNat_natCast, false_and, and_false, true_and, and_true, if_true, if_false, reduceIte, reduceCtorEq, forall_const, false_or, or_false, true_or, or_true, ne_eq, not_true_eq_false, not_false_eq_true, implies_true, false_implies, Nat.reduceAdd, Nat.reduceSub, Nat.reduceMul, Nat.reduceEqDiff, Nat.reduceLT, Nat.reduceLeDiff, Int.reduceAdd, Int.reduceSub, Int.reduceMul, Int.reduceNeg, Int.reduceToNat, Int.reduceLE, Int.reduceLT, Int.reduceEq, Int.reduceNe, and_self, pvPush]
      (repeat' first | with_reducible apply And.intro | with_reducible intro _)
      all_goals first
        | omega
        | exact Or.inl rfl
        | exact hq (hok _ rfl)
    · exact hq.elim
    · exact hq.elim
    · exact hq.elim
    · exact hq.elim
  · exact h.elim
theorem hdL_branches : ∀ i (x : Nat × Nat × Nat × Nat) (k : Nat), ([(0, 12, 15, 21)] : List (Nat × Nat × Nat × Nat))[i]? = some x → ([0] : List Nat)[i]? = some k → (x.1 ≤ 7 ∧ 7 < x.2.1 ∧ x.2.2.2 ≠ 0 ∧ pvHd cL_branches 6 x.2.2.1 i) ∧ Cond.classLink "EventClockWorkbenchLaw" x.2.2.2 (pvXn k) ∈ pvTb := by
  intro i x k h1 h2
  match i, h1, h2 with
  | 0, h1, h2 => cases h1; cases h2; exact ⟨⟨by decide, by decide, by decide, ⟨5, by decide, Or.inr ⟨by decide +kernel, by decide +kernel, by decide +kernel⟩⟩⟩, wd_2_137⟩
  | n + 1, h1, h2 => simp at h1
theorem metWL_branches {l : Launch} (hf : l.stackTraces = false) : pvMetW l yL_branches (Cond.codeWith yL_branches cL_branches 6 (some .int) [(0, 12, 15, 21)] :: pvTb) mL_branches C_L_branches :=
  pvMetW_of (y := yL_branches) 94 4 7 [0] plL coL foL (caL_branches hf) rfl ⟨rfl, rfl⟩ chL_branches (by decide +kernel) rfl (by decide) (by decide) (by decide) hdL_branches owL_branches
def bL_branchTarget : Nat → List (Instr × Nat)
  | 0 => [(.aload 5, 2), (.iconst 0, 1), (.aload_n 0, 1), (.iload_n 1, 1), (.iload_n 2, 1), (.iload_n 3, 1), (.iload 4, 2)]
  | 9 => [(.invokevirtual 97, 3)]
  | 12 => [(.i2l, 1), (.lastore, 1), (.goto 7, 3)]
  | 21 => [(.iconst 0, 1), (.ireturn, 1)]
  | _ => []
theorem bL_branchTarget_0 : bL_branchTarget 0 = [(.aload 5, 2), (.iconst 0, 1), (.aload_n 0, 1), (.iload_n 1, 1), (.iload_n 2, 1), (.iload_n 3, 1), (.iload 4, 2)] := rfl
theorem bL_branchTarget_9 : bL_branchTarget 9 = [(.invokevirtual 97, 3)] := rfl
theorem bL_branchTarget_12 : bL_branchTarget 12 = [(.i2l, 1), (.lastore, 1), (.goto 7, 3)] := rfl
theorem bL_branchTarget_21 : bL_branchTarget 21 = [(.iconst 0, 1), (.ireturn, 1)] := rfl
def aL_branchTarget : pvCa
  | 97 => some (5, false, 8, 0, C_X9_branchTarget)
  | _ => none
def mL_branchTarget : Room := { frames := 10, cells := 1, slots := 6, locals := 184 }
theorem pnL_branchTarget : pvPn yL_branchTarget = some 6 := by decide +kernel
theorem caL_branchTarget {l : Launch} (hf : l.stackTraces = false) : pvCaOk l mL_branchTarget "EventClockWorkbenchLaw" pvTb 60 aL_branchTarget := by
  refine pvCaOk_i fun ix n b ci co C h => ?_
  unfold aL_branchTarget at h
  split at h
  · cases h; exact pvCe_V (k := 4) (T := TX9) (N := 11) (metX9_branchTarget hf) rfl wd_1_1 rfl wd_4_148 wd_4_149 wd_4_150 pnX9_branchTarget rfl wd_4_151
  · cases h
set_option maxRecDepth 100000 in
theorem chL_branchTarget : ∀ pc, pvChain cL_branchTarget pc (bL_branchTarget pc) := by
  intro pc
  unfold bL_branchTarget
  split <;> first | exact True.intro | exact pvChain_of (by decide +kernel)
theorem shL_branchTarget {as : List pvV} {z : pvM} {Q : pvO → pvM → Prop} (h : C_X9_branchTarget as z Q) : ∃ v1 v2 v3 v4 : Int, as = [vR 0, vI v1, vI v2, vI v3, vI v4] := by
  unfold C_X9_branchTarget at h
  split at h
  · obtain ⟨rfl, -⟩ := h
    exact ⟨_, _, _, _, rfl⟩
  · exact h.elim
set_option maxRecDepth 100000 in
set_option maxHeartbeats 4000000 in
theorem owL_branchTarget : ∀ as z Q, C_L_branchTarget as z Q → pvOkS as → pvCs as ≤ 7 ∧ ∃ (a9 rest st9 : List pvV) (Q0 : pvO → pvM → Prop), pvPop 5 st9 [] = some (a9, rest) ∧ pvCs rest ≤ 8 ∧ pvRecv 60 8 a9 ∧ C_X9_branchTarget a9 z Q0 ∧
      pvB 60 (0, fun _ => 0) fL aL_branchTarget kL pvEx0 1 (fun pc ls' st z' g => pc = 9 ∧ ls' = pvEn as 7 ∧ st = st9 ∧ z' = z ∧ g = 0) (fun _ _ _ => False) (fun _ _ _ _ => False) (bL_branchTarget 0) 0 (pvEn as 7) [] z 0 ∧
      (∀ v z', Q0 (.inl v) z' → (∀ x, v = some x → pvOk x) → pvB 60 (0, fun _ => 0) fL aL_branchTarget kL pvEx0 1 (pvX 60 (0, fun _ => 0) fL aL_branchTarget kL pvEx0 1 (pvRt (some .int) Q) (fun _ _ _ _ => False) bL_branchTarget (fun _ => none) (fun _ _ _ _ => False) 9) (pvRt (some .int) Q) (fun _ _ _ _ => False) (bL_branchTarget (9 + 3)) (9 + 3) (pvEn as 7) (pvPush v rest) z' 0) ∧
      (∀ k z', Q0 (.inr k) z' → k ∈ [0] ∧ Q (.inl (some (vI (hfF [0] k)))) z') := by
  intro as z Q h hS
  unfold C_L_branchTarget at h
  split at h
  · obtain ⟨rfl, h⟩ := h
    have e := shL_branchTarget h
    obtain ⟨v1, v2, v3, v4, e⟩ := e
    cases e
    refine ⟨Nat.le_of_ble_eq_true rfl, [vR 0, vI v1, vI v2, vI v3, vI v4], [vI 0, vR 58], [vI v4, vI v3, vI v2, vI v1, vR 0, vI 0, vR 58], wrI [0] Q, rfl, Nat.le_of_ble_eq_true rfl, ⟨rfl, by decide⟩, h, ?_, fun v z' hq hok => ?_, fun k z' hq => hq⟩
    · simp only [bL_branchTarget_0, bL_branchTarget_9, bL_branchTarget_12, bL_branchTarget_21, pvE_aload, pvLA_s, pvLd, pvE_iconst, pvE_aload_n0, pvE_iload_n1, pvLI_s, pvE_iload_n2, pvE_iload_n3, pvE_iload, pvE_invokevirtual, pvC1_s, pvC2_s, pvAf_v, pvAf_x, pvPop, pvCs, pvCat, pvPush, pvSh_0, pvSh_58, pvSh_59, pvE_i2l, pvE_lastore, pvAL, pvE_goto, pvE_astore, pvS1, List.length_cons, List.length_nil, pvClr_i, pvClr_r, pvClr_l, pvClr_d, pvClr_f, pvClr_n, pvE_ireturn, pvRecv_r, pvUp_nl, pvUp_same, pvUp_ap, pvSt_ap, pvX_c, pvX_ms, pvX_mn, pvE_nil, pvEn_i, pvEn_r, pvEn_l, pvEn_0, pvEn_s, pvRt, pvRv, pvTh, pvKc, pvGo, pvTgt, Int.toNat_natCast, false_and, and_false, true_and, and_true, if_true, if_false, reduceIte, reduceCtorEq, forall_const, false_or, or_false, true_or, or_true, ne_eq, not_true_eq_false, not_false_eq_true, implies_true, false_implies, Nat.reduceAdd, Nat.reduceSub, Nat.reduceMul, Nat.reduceEqDiff, Nat.reduceLT, Nat.reduceLeDiff, Int.reduceAdd, Int.reduceSub, Int.reduceMul, Int.reduceNeg, Int.reduceToNat, Int.reduceLE, Int.reduceLT, Int.reduceEq, Int.reduceNe, and_self, pvPush]
      (repeat' first | with_reducible apply And.intro | with_reducible intro _)
      all_goals first
        | omega
        | rfl
        | trivial
    rcases v with _ | (a | a | a | a | a)
    · exact hq.elim
    · simp only [wrI] at hq
      simp only [bL_branchTarget_0, bL_branchTarget_9, bL_branchTarget_12, bL_branchTarget_21, pvE_aload, pvLA_s, pvLd, pvE_iconst, pvE_aload_n0, pvE_iload_n1, pvLI_s, pvE_iload_n2, pvE_iload_n3, pvE_iload, pvE_invokevirtual, pvC1_s, pvC2_s, pvAf_v, pvAf_x, pvPop, pvCs, pvCat, pvPush, pvSh_0, pvSh_58, pvSh_59, pvE_i2l, pvE_lastore, pvAL, pvE_goto, pvE_astore, pvS1, List.length_cons, List.length_nil, pvClr_i, pvClr_r, pvClr_l, pvClr_d, pvClr_f, pvClr_n, pvE_ireturn, pvRecv_r, pvUp_nl, pvUp_same, pvUp_ap, pvSt_ap, pvX_c, pvX_ms, pvX_mn, pvE_nil, pvEn_i, pvEn_r, pvEn_l, pvEn_0, pvEn_s, pvRt, pvRv, pvTh, pvKc, pvGo, pvTgt, Int.toNat_natCast, false_and, and_false, true_and, and_true, if_true, if_false, reduceIte, reduceCtorEq, forall_const, false_or, or_false, true_or, or_true, ne_eq, not_true_eq_false, not_false_eq_true, implies_true, false_implies, Nat.reduceAdd, Nat.reduceSub, Nat.reduceMul, Nat.reduceEqDiff, Nat.reduceLT, Nat.reduceLeDiff, Int.reduceAdd, Int.reduceSub, Int.reduceMul, Int.reduceNeg, Int.reduceToNat, Int.reduceLE, Int.reduceLT, Int.reduceEq, Int.reduceNe, and_self, pvPush]
      (repeat' first | with_reducible apply And.intro | with_reducible intro _)
      all_goals first
        | omega
        | exact Or.inl rfl
        | exact hq (hok _ rfl)
    · exact hq.elim
    · exact hq.elim
    · exact hq.elim
    · exact hq.elim
  · exact h.elim
theorem hdL_branchTarget : ∀ i (x : Nat × Nat × Nat × Nat) (k : Nat), ([(0, 14, 17, 21)] : List (Nat × Nat × Nat × Nat))[i]? = some x → ([0] : List Nat)[i]? = some k → (x.1 ≤ 9 ∧ 9 < x.2.1 ∧ x.2.2.2 ≠ 0 ∧ pvHd cL_branchTarget 7 x.2.2.1 i) ∧ Cond.classLink "EventClockWorkbenchLaw" x.2.2.2 (pvXn k) ∈ pvTb := by
  intro i x k h1 h2
  match i, h1, h2 with
  | 0, h1, h2 => cases h1; cases h2; exact ⟨⟨by decide, by decide, by decide, ⟨6, by decide, Or.inr ⟨by decide +kernel, by decide +kernel, by decide +kernel⟩⟩⟩, wd_2_137⟩
  | n + 1, h1, h2 => simp at h1
theorem metWL_branchTarget {l : Launch} (hf : l.stackTraces = false) : pvMetW l yL_branchTarget (Cond.codeWith yL_branchTarget cL_branchTarget 7 (some .int) [(0, 14, 17, 21)] :: pvTb) mL_branchTarget C_L_branchTarget :=
  pvMetW_of (y := yL_branchTarget) 97 5 9 [0] plL coL foL (caL_branchTarget hf) rfl ⟨rfl, rfl⟩ chL_branchTarget (by decide +kernel) rfl (by decide) (by decide) (by decide) hdL_branchTarget owL_branchTarget
def bL_branchValuations : Nat → List (Instr × Nat)
  | 0 => [(.aload 5, 2), (.iconst 0, 1), (.aload_n 0, 1), (.iload_n 1, 1), (.iload_n 2, 1), (.iload_n 3, 1), (.iload 4, 2)]
  | 9 => [(.invokevirtual 100, 3)]
  | 12 => [(.i2l, 1), (.lastore, 1), (.goto 7, 3)]
  | 21 => [(.iconst 0, 1), (.ireturn, 1)]
  | _ => []
theorem bL_branchValuations_0 : bL_branchValuations 0 = [(.aload 5, 2), (.iconst 0, 1), (.aload_n 0, 1), (.iload_n 1, 1), (.iload_n 2, 1), (.iload_n 3, 1), (.iload 4, 2)] := rfl
theorem bL_branchValuations_9 : bL_branchValuations 9 = [(.invokevirtual 100, 3)] := rfl
theorem bL_branchValuations_12 : bL_branchValuations 12 = [(.i2l, 1), (.lastore, 1), (.goto 7, 3)] := rfl
theorem bL_branchValuations_21 : bL_branchValuations 21 = [(.iconst 0, 1), (.ireturn, 1)] := rfl
def aL_branchValuations : pvCa
  | 100 => some (5, false, 8, 0, C_X9_branchValuations)
  | _ => none
def mL_branchValuations : Room := { frames := 10, cells := 1, slots := 6, locals := 184 }
theorem pnL_branchValuations : pvPn yL_branchValuations = some 6 := by decide +kernel
theorem caL_branchValuations {l : Launch} (hf : l.stackTraces = false) : pvCaOk l mL_branchValuations "EventClockWorkbenchLaw" pvTb 60 aL_branchValuations := by
  refine pvCaOk_i fun ix n b ci co C h => ?_
  unfold aL_branchValuations at h
  split at h
  · cases h; exact pvCe_V (k := 4) (T := TX9) (N := 11) (metX9_branchValuations hf) rfl wd_1_1 rfl wd_4_167 wd_4_168 wd_4_169 pnX9_branchValuations rfl wd_4_170
  · cases h
set_option maxRecDepth 100000 in
theorem chL_branchValuations : ∀ pc, pvChain cL_branchValuations pc (bL_branchValuations pc) := by
  intro pc
  unfold bL_branchValuations
  split <;> first | exact True.intro | exact pvChain_of (by decide +kernel)
theorem shL_branchValuations {as : List pvV} {z : pvM} {Q : pvO → pvM → Prop} (h : C_X9_branchValuations as z Q) : ∃ v1 v2 v3 v4 : Int, as = [vR 0, vI v1, vI v2, vI v3, vI v4] := by
  unfold C_X9_branchValuations at h
  split at h
  · obtain ⟨rfl, -⟩ := h
    exact ⟨_, _, _, _, rfl⟩
  · exact h.elim
set_option maxRecDepth 100000 in
set_option maxHeartbeats 4000000 in
theorem owL_branchValuations : ∀ as z Q, C_L_branchValuations as z Q → pvOkS as → pvCs as ≤ 7 ∧ ∃ (a9 rest st9 : List pvV) (Q0 : pvO → pvM → Prop), pvPop 5 st9 [] = some (a9, rest) ∧ pvCs rest ≤ 8 ∧ pvRecv 60 8 a9 ∧ C_X9_branchValuations a9 z Q0 ∧
      pvB 60 (0, fun _ => 0) fL aL_branchValuations kL pvEx0 1 (fun pc ls' st z' g => pc = 9 ∧ ls' = pvEn as 7 ∧ st = st9 ∧ z' = z ∧ g = 0) (fun _ _ _ => False) (fun _ _ _ _ => False) (bL_branchValuations 0) 0 (pvEn as 7) [] z 0 ∧
      (∀ v z', Q0 (.inl v) z' → (∀ x, v = some x → pvOk x) → pvB 60 (0, fun _ => 0) fL aL_branchValuations kL pvEx0 1 (pvX 60 (0, fun _ => 0) fL aL_branchValuations kL pvEx0 1 (pvRt (some .int) Q) (fun _ _ _ _ => False) bL_branchValuations (fun _ => none) (fun _ _ _ _ => False) 9) (pvRt (some .int) Q) (fun _ _ _ _ => False) (bL_branchValuations (9 + 3)) (9 + 3) (pvEn as 7) (pvPush v rest) z' 0) ∧
      (∀ k z', Q0 (.inr k) z' → k ∈ [0] ∧ Q (.inl (some (vI (hfF [0] k)))) z') := by
  intro as z Q h hS
  unfold C_L_branchValuations at h
  split at h
  · obtain ⟨rfl, h⟩ := h
    have e := shL_branchValuations h
    obtain ⟨v1, v2, v3, v4, e⟩ := e
    cases e
    refine ⟨Nat.le_of_ble_eq_true rfl, [vR 0, vI v1, vI v2, vI v3, vI v4], [vI 0, vR 58], [vI v4, vI v3, vI v2, vI v1, vR 0, vI 0, vR 58], wrI [0] Q, rfl, Nat.le_of_ble_eq_true rfl, ⟨rfl, by decide⟩, h, ?_, fun v z' hq hok => ?_, fun k z' hq => hq⟩
    · simp only [bL_branchValuations_0, bL_branchValuations_9, bL_branchValuations_12, bL_branchValuations_21, pvE_aload, pvLA_s, pvLd, pvE_iconst, pvE_aload_n0, pvE_iload_n1, pvLI_s, pvE_iload_n2, pvE_iload_n3, pvE_iload, pvE_invokevirtual, pvC1_s, pvC2_s, pvAf_v, pvAf_x, pvPop, pvCs, pvCat, pvPush, pvSh_0, pvSh_58, pvSh_59, pvE_i2l, pvE_lastore, pvAL, pvE_goto, pvE_astore, pvS1, List.length_cons, List.length_nil, pvClr_i, pvClr_r, pvClr_l, pvClr_d, pvClr_f, pvClr_n, pvE_ireturn, pvRecv_r, pvUp_nl, pvUp_same, pvUp_ap, pvSt_ap, pvX_c, pvX_ms, pvX_mn, pvE_nil, pvEn_i, pvEn_r, pvEn_l, pvEn_0, pvEn_s, pvRt, pvRv, pvTh, pvKc, pvGo, pvTgt, Int.toNat_natCast, false_and, and_false, true_and, and_true, if_true, if_false, reduceIte, reduceCtorEq, forall_const, false_or, or_false, true_or, or_true, ne_eq, not_true_eq_false, not_false_eq_true, implies_true, false_implies, Nat.reduceAdd, Nat.reduceSub, Nat.reduceMul, Nat.reduceEqDiff, Nat.reduceLT, Nat.reduceLeDiff, Int.reduceAdd, Int.reduceSub, Int.reduceMul, Int.reduceNeg, Int.reduceToNat, Int.reduceLE, Int.reduceLT, Int.reduceEq, Int.reduceNe, and_self, pvPush]
      (repeat' first | with_reducible apply And.intro | with_reducible intro _)
      all_goals first
        | omega
        | rfl
        | trivial
    rcases v with _ | (a | a | a | a | a)
    · exact hq.elim
    · simp only [wrI] at hq
      simp only [bL_branchValuations_0, bL_branchValuations_9, bL_branchValuations_12, bL_branchValuations_21, pvE_aload, pvLA_s, pvLd, pvE_iconst, pvE_aload_n0, pvE_iload_n1, pvLI_s, pvE_iload_n2, pvE_iload_n3, pvE_iload, pvE_invokevirtual, pvC1_s, pvC2_s, pvAf_v, pvAf_x, pvPop, pvCs, pvCat, pvPush, pvSh_0, pvSh_58, pvSh_59, pvE_i2l, pvE_lastore, pvAL, pvE_goto, pvE_astore, pvS1, List.length_cons, List.length_nil, pvClr_i, pvClr_r, pvClr_l, pvClr_d, pvClr_f, pvClr_n, pvE_ireturn, pvRecv_r, pvUp_nl, pvUp_same, pvUp_ap, pvSt_ap, pvX_c, pvX_ms, pvX_mn, pvE_nil, pvEn_i, pvEn_r, pvEn_l, pvEn_0, pvEn_s, pvRt, pvRv, pvTh, pvKc, pvGo, pvTgt, Int.toNat_natCast, false_and, and_false, true_and, and_true, if_true, if_false, reduceIte, reduceCtorEq, forall_const, false_or, or_false, true_or, or_true, ne_eq, not_true_eq_false, not_false_eq_true, implies_true, false_implies, Nat.reduceAdd, Nat.reduceSub, Nat.reduceMul, Nat.reduceEqDiff, Nat.reduceLT, Nat.reduceLeDiff, Int.reduceAdd, Int.reduceSub, Int.reduceMul, Int.reduceNeg, Int.reduceToNat, Int.reduceLE, Int.reduceLT, Int.reduceEq, Int.reduceNe, and_self, pvPush]
      (repeat' first | with_reducible apply And.intro | with_reducible intro _)
      all_goals first
        | omega
        | exact Or.inl rfl
        | exact hq (hok _ rfl)
    · exact hq.elim
    · exact hq.elim
    · exact hq.elim
    · exact hq.elim
  · exact h.elim
theorem hdL_branchValuations : ∀ i (x : Nat × Nat × Nat × Nat) (k : Nat), ([(0, 14, 17, 21)] : List (Nat × Nat × Nat × Nat))[i]? = some x → ([0] : List Nat)[i]? = some k → (x.1 ≤ 9 ∧ 9 < x.2.1 ∧ x.2.2.2 ≠ 0 ∧ pvHd cL_branchValuations 7 x.2.2.1 i) ∧ Cond.classLink "EventClockWorkbenchLaw" x.2.2.2 (pvXn k) ∈ pvTb := by
  intro i x k h1 h2
  match i, h1, h2 with
  | 0, h1, h2 => cases h1; cases h2; exact ⟨⟨by decide, by decide, by decide, ⟨6, by decide, Or.inr ⟨by decide +kernel, by decide +kernel, by decide +kernel⟩⟩⟩, wd_2_137⟩
  | n + 1, h1, h2 => simp at h1
theorem metWL_branchValuations {l : Launch} (hf : l.stackTraces = false) : pvMetW l yL_branchValuations (Cond.codeWith yL_branchValuations cL_branchValuations 7 (some .int) [(0, 14, 17, 21)] :: pvTb) mL_branchValuations C_L_branchValuations :=
  pvMetW_of (y := yL_branchValuations) 100 5 9 [0] plL coL foL (caL_branchValuations hf) rfl ⟨rfl, rfl⟩ chL_branchValuations (by decide +kernel) rfl (by decide) (by decide) (by decide) hdL_branchValuations owL_branchValuations
def bL_deterministicRun : Nat → List (Instr × Nat)
  | 0 => [(.aload_n 2, 1), (.iconst 0, 1), (.aload_n 0, 1), (.iload_n 1, 1)]
  | 4 => [(.invokevirtual 103, 3)]
  | 7 => [(.i2l, 1), (.lastore, 1), (.goto 6, 3)]
  | 15 => [(.iconst 0, 1), (.ireturn, 1)]
  | _ => []
theorem bL_deterministicRun_0 : bL_deterministicRun 0 = [(.aload_n 2, 1), (.iconst 0, 1), (.aload_n 0, 1), (.iload_n 1, 1)] := rfl
theorem bL_deterministicRun_4 : bL_deterministicRun 4 = [(.invokevirtual 103, 3)] := rfl
theorem bL_deterministicRun_7 : bL_deterministicRun 7 = [(.i2l, 1), (.lastore, 1), (.goto 6, 3)] := rfl
theorem bL_deterministicRun_15 : bL_deterministicRun 15 = [(.iconst 0, 1), (.ireturn, 1)] := rfl
def aL_deterministicRun : pvCa
  | 103 => some (2, false, 8, 0, C_X9_deterministicRun)
  | _ => none
def mL_deterministicRun : Room := { frames := 8, cells := 1, slots := 6, locals := 158 }
theorem pnL_deterministicRun : pvPn yL_deterministicRun = some 3 := by decide +kernel
theorem caL_deterministicRun {l : Launch} (hf : l.stackTraces = false) : pvCaOk l mL_deterministicRun "EventClockWorkbenchLaw" pvTb 60 aL_deterministicRun := by
  refine pvCaOk_i fun ix n b ci co C h => ?_
  unfold aL_deterministicRun at h
  split at h
  · cases h; exact pvCe_V (k := 1) (T := TX9) (N := 11) (metX9_deterministicRun hf) rfl wd_1_1 rfl wd_4_178 wd_4_179 wd_4_180 pnX9_deterministicRun rfl wd_4_181
  · cases h
set_option maxRecDepth 100000 in
theorem chL_deterministicRun : ∀ pc, pvChain cL_deterministicRun pc (bL_deterministicRun pc) := by
  intro pc
  unfold bL_deterministicRun
  split <;> first | exact True.intro | exact pvChain_of (by decide +kernel)
theorem shL_deterministicRun {as : List pvV} {z : pvM} {Q : pvO → pvM → Prop} (h : C_X9_deterministicRun as z Q) : ∃ v1 : Int, as = [vR 0, vI v1] := by
  unfold C_X9_deterministicRun at h
  split at h
  · obtain ⟨rfl, -⟩ := h
    exact ⟨_, rfl⟩
  · exact h.elim
set_option maxRecDepth 100000 in
set_option maxHeartbeats 4000000 in
theorem owL_deterministicRun : ∀ as z Q, C_L_deterministicRun as z Q → pvOkS as → pvCs as ≤ 4 ∧ ∃ (a9 rest st9 : List pvV) (Q0 : pvO → pvM → Prop), pvPop 2 st9 [] = some (a9, rest) ∧ pvCs rest ≤ 8 ∧ pvRecv 60 8 a9 ∧ C_X9_deterministicRun a9 z Q0 ∧
      pvB 60 (0, fun _ => 0) fL aL_deterministicRun kL pvEx0 1 (fun pc ls' st z' g => pc = 4 ∧ ls' = pvEn as 4 ∧ st = st9 ∧ z' = z ∧ g = 0) (fun _ _ _ => False) (fun _ _ _ _ => False) (bL_deterministicRun 0) 0 (pvEn as 4) [] z 0 ∧
      (∀ v z', Q0 (.inl v) z' → (∀ x, v = some x → pvOk x) → pvB 60 (0, fun _ => 0) fL aL_deterministicRun kL pvEx0 1 (pvX 60 (0, fun _ => 0) fL aL_deterministicRun kL pvEx0 1 (pvRt (some .int) Q) (fun _ _ _ _ => False) bL_deterministicRun (fun _ => none) (fun _ _ _ _ => False) 9) (pvRt (some .int) Q) (fun _ _ _ _ => False) (bL_deterministicRun (4 + 3)) (4 + 3) (pvEn as 4) (pvPush v rest) z' 0) ∧
      (∀ k z', Q0 (.inr k) z' → k ∈ [0] ∧ Q (.inl (some (vI (hfF [0] k)))) z') := by
  intro as z Q h hS
  unfold C_L_deterministicRun at h
  split at h
  · obtain ⟨rfl, h⟩ := h
    have e := shL_deterministicRun h
    obtain ⟨v1, e⟩ := e
    cases e
    refine ⟨Nat.le_of_ble_eq_true rfl, [vR 0, vI v1], [vI 0, vR 58], [vI v1, vR 0, vI 0, vR 58], wrI [0] Q, rfl, Nat.le_of_ble_eq_true rfl, ⟨rfl, by decide⟩, h, ?_, fun v z' hq hok => ?_, fun k z' hq => hq⟩
    · simp only [bL_deterministicRun_0, bL_deterministicRun_4, bL_deterministicRun_7, bL_deterministicRun_15, pvE_aload_n2, pvLA_s, pvLd, pvE_iconst, pvE_aload_n0, pvE_iload_n1, pvLI_s, pvE_invokevirtual, pvC1_s, pvC2_s, pvAf_v, pvAf_x, pvPop, pvCs, pvCat, pvPush, pvSh_0, pvSh_58, pvSh_59, pvE_i2l, pvE_lastore, pvAL, pvE_goto, pvE_astore_n3, pvS1, List.length_cons, List.length_nil, pvClr_i, pvClr_r, pvClr_l, pvClr_d, pvClr_f, pvClr_n, pvE_ireturn, pvRecv_r, pvUp_nl, pvUp_same, pvUp_ap, pvSt_ap, pvX_c, pvX_ms, pvX_mn, pvE_nil, pvEn_i, pvEn_r, pvEn_l, pvEn_0, pvEn_s, pvRt, pvRv, pvTh, pvKc, pvGo, pvTgt, Int.toNat_natCast, false_and, and_false, true_and, and_true, if_true, if_false, reduceIte, reduceCtorEq, forall_const, false_or, or_false, true_or, or_true, ne_eq, not_true_eq_false, not_false_eq_true, implies_true, false_implies, Nat.reduceAdd, Nat.reduceSub, Nat.reduceMul, Nat.reduceEqDiff, Nat.reduceLT, Nat.reduceLeDiff, Int.reduceAdd, Int.reduceSub, Int.reduceMul, Int.reduceNeg, Int.reduceToNat, Int.reduceLE, Int.reduceLT, Int.reduceEq, Int.reduceNe, and_self, pvPush]
      (repeat' first | with_reducible apply And.intro | with_reducible intro _)
      all_goals first
        | omega
        | rfl
        | trivial
    rcases v with _ | (a | a | a | a | a)
    · exact hq.elim
    · simp only [wrI] at hq
      simp only [bL_deterministicRun_0, bL_deterministicRun_4, bL_deterministicRun_7, bL_deterministicRun_15, pvE_aload_n2, pvLA_s, pvLd, pvE_iconst, pvE_aload_n0, pvE_iload_n1, pvLI_s, pvE_invokevirtual, pvC1_s, pvC2_s, pvAf_v, pvAf_x, pvPop, pvCs, pvCat, pvPush, pvSh_0, pvSh_58, pvSh_59, pvE_i2l, pvE_lastore, pvAL, pvE_goto, pvE_astore_n3, pvS1, List.length_cons, List.length_nil, pvClr_i, pvClr_r, pvClr_l, pvClr_d, pvClr_f, pvClr_n, pvE_ireturn, pvRecv_r, pvUp_nl, pvUp_same, pvUp_ap, pvSt_ap, pvX_c, pvX_ms, pvX_mn, pvE_nil, pvEn_i, pvEn_r, pvEn_l, pvEn_0, pvEn_s, pvRt, pvRv, pvTh, pvKc, pvGo, pvTgt, Int.toNat_natCast, false_and, and_false, true_and, and_true, if_true, if_false, reduceIte, reduceCtorEq, forall_const, false_or, or_false, true_or, or_true, ne_eq, not_true_eq_false, not_false_eq_true, implies_true, false_implies, Nat.reduceAdd, Nat.reduceSub, Nat.reduceMul, Nat.reduceEqDiff, Nat.reduceLT, Nat.reduceLeDiff, Int.reduceAdd, Int.reduceSub, Int.reduceMul, Int.reduceNeg, Int.reduceToNat, Int.reduceLE, Int.reduceLT, Int.reduceEq, Int.reduceNe, and_self, pvPush]
      (repeat' first | with_reducible apply And.intro | with_reducible intro _)
      all_goals first
        | omega
        | exact Or.inl rfl
        | exact hq (hok _ rfl)
    · exact hq.elim
    · exact hq.elim
    · exact hq.elim
    · exact hq.elim
  · exact h.elim
theorem hdL_deterministicRun : ∀ i (x : Nat × Nat × Nat × Nat) (k : Nat), ([(0, 9, 12, 21)] : List (Nat × Nat × Nat × Nat))[i]? = some x → ([0] : List Nat)[i]? = some k → (x.1 ≤ 4 ∧ 4 < x.2.1 ∧ x.2.2.2 ≠ 0 ∧ pvHd cL_deterministicRun 4 x.2.2.1 i) ∧ Cond.classLink "EventClockWorkbenchLaw" x.2.2.2 (pvXn k) ∈ pvTb := by
  intro i x k h1 h2
  match i, h1, h2 with
  | 0, h1, h2 => cases h1; cases h2; exact ⟨⟨by decide, by decide, by decide, ⟨3, by decide, Or.inl ⟨3, rfl, by decide +kernel, by decide +kernel, by decide +kernel⟩⟩⟩, wd_2_137⟩
  | n + 1, h1, h2 => simp at h1
theorem metWL_deterministicRun {l : Launch} (hf : l.stackTraces = false) : pvMetW l yL_deterministicRun (Cond.codeWith yL_deterministicRun cL_deterministicRun 4 (some .int) [(0, 9, 12, 21)] :: pvTb) mL_deterministicRun C_L_deterministicRun :=
  pvMetW_of (y := yL_deterministicRun) 103 2 4 [0] plL coL foL (caL_deterministicRun hf) rfl ⟨rfl, rfl⟩ chL_deterministicRun (by decide +kernel) rfl (by decide) (by decide) (by decide) hdL_deterministicRun owL_deterministicRun
def bL_isDeterministic : Nat → List (Instr × Nat)
  | 0 => [(.aload_n 2, 1), (.iconst 0, 1), (.aload_n 0, 1), (.iload_n 1, 1)]
  | 4 => [(.invokevirtual 106, 3)]
  | 7 => [(.ifCond .eq 7, 3), (.lconst 1, 1), (.goto 4, 3)]
  | 14 => [(.lconst 0, 1)]
  | 15 => [(.lastore, 1), (.goto 6, 3)]
  | 22 => [(.iconst 0, 1), (.ireturn, 1)]
  | _ => []
theorem bL_isDeterministic_0 : bL_isDeterministic 0 = [(.aload_n 2, 1), (.iconst 0, 1), (.aload_n 0, 1), (.iload_n 1, 1)] := rfl
theorem bL_isDeterministic_4 : bL_isDeterministic 4 = [(.invokevirtual 106, 3)] := rfl
theorem bL_isDeterministic_7 : bL_isDeterministic 7 = [(.ifCond .eq 7, 3), (.lconst 1, 1), (.goto 4, 3)] := rfl
theorem bL_isDeterministic_14 : bL_isDeterministic 14 = [(.lconst 0, 1)] := rfl
theorem bL_isDeterministic_15 : bL_isDeterministic 15 = [(.lastore, 1), (.goto 6, 3)] := rfl
theorem bL_isDeterministic_22 : bL_isDeterministic 22 = [(.iconst 0, 1), (.ireturn, 1)] := rfl
def aL_isDeterministic : pvCa
  | 106 => some (2, false, 8, 0, C_X9_isDeterministic)
  | _ => none
def mL_isDeterministic : Room := { frames := 8, cells := 1, slots := 6, locals := 124 }
theorem pnL_isDeterministic : pvPn yL_isDeterministic = some 3 := by decide +kernel
theorem caL_isDeterministic {l : Launch} (hf : l.stackTraces = false) : pvCaOk l mL_isDeterministic "EventClockWorkbenchLaw" pvTb 60 aL_isDeterministic := by
  refine pvCaOk_i fun ix n b ci co C h => ?_
  unfold aL_isDeterministic at h
  split at h
  · cases h; exact pvCe_V (k := 1) (T := TX9) (N := 11) (metX9_isDeterministic hf) rfl wd_1_1 rfl wd_4_185 wd_4_186 wd_4_187 pnX9_isDeterministic rfl wd_4_188
  · cases h
set_option maxRecDepth 100000 in
theorem chL_isDeterministic : ∀ pc, pvChain cL_isDeterministic pc (bL_isDeterministic pc) := by
  intro pc
  unfold bL_isDeterministic
  split <;> first | exact True.intro | exact pvChain_of (by decide +kernel)
theorem shL_isDeterministic {as : List pvV} {z : pvM} {Q : pvO → pvM → Prop} (h : C_X9_isDeterministic as z Q) : ∃ v1 : Int, as = [vR 0, vI v1] := by
  unfold C_X9_isDeterministic at h
  split at h
  · obtain ⟨rfl, -⟩ := h
    exact ⟨_, rfl⟩
  · exact h.elim
set_option maxRecDepth 100000 in
set_option maxHeartbeats 4000000 in
theorem owL_isDeterministic : ∀ as z Q, C_L_isDeterministic as z Q → pvOkS as → pvCs as ≤ 4 ∧ ∃ (a9 rest st9 : List pvV) (Q0 : pvO → pvM → Prop), pvPop 2 st9 [] = some (a9, rest) ∧ pvCs rest ≤ 8 ∧ pvRecv 60 8 a9 ∧ C_X9_isDeterministic a9 z Q0 ∧
      pvB 60 (0, fun _ => 0) fL aL_isDeterministic kL pvEx0 1 (fun pc ls' st z' g => pc = 4 ∧ ls' = pvEn as 4 ∧ st = st9 ∧ z' = z ∧ g = 0) (fun _ _ _ => False) (fun _ _ _ _ => False) (bL_isDeterministic 0) 0 (pvEn as 4) [] z 0 ∧
      (∀ v z', Q0 (.inl v) z' → (∀ x, v = some x → pvOk x) → pvB 60 (0, fun _ => 0) fL aL_isDeterministic kL pvEx0 1 (pvX 60 (0, fun _ => 0) fL aL_isDeterministic kL pvEx0 1 (pvRt (some .int) Q) (fun _ _ _ _ => False) bL_isDeterministic (fun _ => none) (fun _ _ _ _ => False) 9) (pvRt (some .int) Q) (fun _ _ _ _ => False) (bL_isDeterministic (4 + 3)) (4 + 3) (pvEn as 4) (pvPush v rest) z' 0) ∧
      (∀ k z', Q0 (.inr k) z' → k ∈ [0] ∧ Q (.inl (some (vI (hfF [0] k)))) z') := by
  intro as z Q h hS
  unfold C_L_isDeterministic at h
  split at h
  · obtain ⟨rfl, h⟩ := h
    have e := shL_isDeterministic h
    obtain ⟨v1, e⟩ := e
    cases e
    refine ⟨Nat.le_of_ble_eq_true rfl, [vR 0, vI v1], [vI 0, vR 58], [vI v1, vR 0, vI 0, vR 58], wrB [0] Q, rfl, Nat.le_of_ble_eq_true rfl, ⟨rfl, by decide⟩, h, ?_, fun v z' hq hok => ?_, fun k z' hq => hq⟩
    · simp only [bL_isDeterministic_0, bL_isDeterministic_4, bL_isDeterministic_7, bL_isDeterministic_14, bL_isDeterministic_15, bL_isDeterministic_22, pvE_aload_n2, pvLA_s, pvLd, pvE_iconst, pvE_aload_n0, pvE_iload_n1, pvLI_s, pvE_invokevirtual, pvC1_s, pvC2_s, pvAf_v, pvAf_x, pvPop, pvCs, pvCat, pvPush, pvSh_0, pvSh_58, pvSh_59, pvE_if_eq, pvE_lconst1, pvE_goto, pvE_lconst0, pvE_lastore, pvAL, pvE_astore_n3, pvS1, List.length_cons, List.length_nil, pvClr_i, pvClr_r, pvClr_l, pvClr_d, pvClr_f, pvClr_n, pvE_ireturn, pvRecv_r, pvUp_nl, pvUp_same, pvUp_ap, pvSt_ap, pvX_c, pvX_ms, pvX_mn, pvE_nil, pvEn_i, pvEn_r, pvEn_l, pvEn_0, pvEn_s, pvRt, pvRv, pvTh, pvKc, pvGo, pvTgt, Int.toNat_natCast, false_and, and_false, true_and, and_true, if_true, if_false, reduceIte, reduceCtorEq, forall_const, false_or, or_false, true_or, or_true, ne_eq, not_true_eq_false, not_false_eq_true, implies_true, false_implies, Nat.reduceAdd, Nat.reduceSub, Nat.reduceMul, Nat.reduceEqDiff, Nat.reduceLT, Nat.reduceLeDiff, Int.reduceAdd, Int.reduceSub, Int.reduceMul, Int.reduceNeg, Int.reduceToNat, Int.reduceLE, Int.reduceLT, Int.reduceEq, Int.reduceNe, and_self, pvPush]
      (repeat' first | with_reducible apply And.intro | with_reducible intro _)
      all_goals first
        | omega
        | rfl
        | trivial
    rcases v with _ | (a | a | a | a | a)
    · exact hq.elim
    · simp only [wrB] at hq
      simp only [bL_isDeterministic_0, bL_isDeterministic_4, bL_isDeterministic_7, bL_isDeterministic_14, bL_isDeterministic_15, bL_isDeterministic_22, pvE_aload_n2, pvLA_s, pvLd, pvE_iconst, pvE_aload_n0, pvE_iload_n1, pvLI_s, pvE_invokevirtual, pvC1_s, pvC2_s, pvAf_v, pvAf_x, pvPop, pvCs, pvCat, pvPush, pvSh_0, pvSh_58, pvSh_59, pvE_if_eq, pvE_lconst1, pvE_goto, pvE_lconst0, pvE_lastore, pvAL, pvE_astore_n3, pvS1, List.length_cons, List.length_nil, pvClr_i, pvClr_r, pvClr_l, pvClr_d, pvClr_f, pvClr_n, pvE_ireturn, pvRecv_r, pvUp_nl, pvUp_same, pvUp_ap, pvSt_ap, pvX_c, pvX_ms, pvX_mn, pvE_nil, pvEn_i, pvEn_r, pvEn_l, pvEn_0, pvEn_s, pvRt, pvRv, pvTh, pvKc, pvGo, pvTgt, Int.toNat_natCast, false_and, and_false, true_and, and_true, if_true, if_false, reduceIte, reduceCtorEq, forall_const, false_or, or_false, true_or, or_true, ne_eq, not_true_eq_false, not_false_eq_true, implies_true, false_implies, Nat.reduceAdd, Nat.reduceSub, Nat.reduceMul, Nat.reduceEqDiff, Nat.reduceLT, Nat.reduceLeDiff, Int.reduceAdd, Int.reduceSub, Int.reduceMul, Int.reduceNeg, Int.reduceToNat, Int.reduceLE, Int.reduceLT, Int.reduceEq, Int.reduceNe, and_self, pvPush]
      (repeat' first | with_reducible apply And.intro | with_reducible intro _)
      all_goals first
        | omega
        | exact Or.inl rfl
        | (rename (_ : Int) = 0 => h0; subst h0; exact hq)
        | (rename ¬ (_ : Int) = 0 => h0; simp only [if_neg h0] at hq; exact hq)
    · exact hq.elim
    · exact hq.elim
    · exact hq.elim
    · exact hq.elim
  · exact h.elim
theorem hdL_isDeterministic : ∀ i (x : Nat × Nat × Nat × Nat) (k : Nat), ([(0, 16, 19, 21)] : List (Nat × Nat × Nat × Nat))[i]? = some x → ([0] : List Nat)[i]? = some k → (x.1 ≤ 4 ∧ 4 < x.2.1 ∧ x.2.2.2 ≠ 0 ∧ pvHd cL_isDeterministic 4 x.2.2.1 i) ∧ Cond.classLink "EventClockWorkbenchLaw" x.2.2.2 (pvXn k) ∈ pvTb := by
  intro i x k h1 h2
  match i, h1, h2 with
  | 0, h1, h2 => cases h1; cases h2; exact ⟨⟨by decide, by decide, by decide, ⟨3, by decide, Or.inl ⟨3, rfl, by decide +kernel, by decide +kernel, by decide +kernel⟩⟩⟩, wd_2_137⟩
  | n + 1, h1, h2 => simp at h1
theorem metWL_isDeterministic {l : Launch} (hf : l.stackTraces = false) : pvMetW l yL_isDeterministic (Cond.codeWith yL_isDeterministic cL_isDeterministic 4 (some .int) [(0, 16, 19, 21)] :: pvTb) mL_isDeterministic C_L_isDeterministic :=
  pvMetW_of (y := yL_isDeterministic) 106 2 4 [0] plL coL foL (caL_isDeterministic hf) rfl ⟨rfl, rfl⟩ chL_isDeterministic (by decide +kernel) rfl (by decide) (by decide) (by decide) hdL_isDeterministic owL_isDeterministic
def bL_isEmpty : Nat → List (Instr × Nat)
  | 0 => [(.aload_n 2, 1), (.iconst 0, 1), (.aload_n 0, 1), (.iload_n 1, 1)]
  | 4 => [(.invokevirtual 109, 3)]
  | 7 => [(.ifCond .eq 7, 3), (.lconst 1, 1), (.goto 4, 3)]
  | 14 => [(.lconst 0, 1)]
  | 15 => [(.lastore, 1), (.goto 6, 3)]
  | 22 => [(.iconst 0, 1), (.ireturn, 1)]
  | _ => []
theorem bL_isEmpty_0 : bL_isEmpty 0 = [(.aload_n 2, 1), (.iconst 0, 1), (.aload_n 0, 1), (.iload_n 1, 1)] := rfl
theorem bL_isEmpty_4 : bL_isEmpty 4 = [(.invokevirtual 109, 3)] := rfl
theorem bL_isEmpty_7 : bL_isEmpty 7 = [(.ifCond .eq 7, 3), (.lconst 1, 1), (.goto 4, 3)] := rfl
theorem bL_isEmpty_14 : bL_isEmpty 14 = [(.lconst 0, 1)] := rfl
theorem bL_isEmpty_15 : bL_isEmpty 15 = [(.lastore, 1), (.goto 6, 3)] := rfl
theorem bL_isEmpty_22 : bL_isEmpty 22 = [(.iconst 0, 1), (.ireturn, 1)] := rfl
def aL_isEmpty : pvCa
  | 109 => some (2, false, 8, 0, C_X9_isEmpty)
  | _ => none
def mL_isEmpty : Room := { frames := 8, cells := 1, slots := 6, locals := 148 }
theorem pnL_isEmpty : pvPn yL_isEmpty = some 3 := by decide +kernel
theorem caL_isEmpty {l : Launch} (hf : l.stackTraces = false) : pvCaOk l mL_isEmpty "EventClockWorkbenchLaw" pvTb 60 aL_isEmpty := by
  refine pvCaOk_i fun ix n b ci co C h => ?_
  unfold aL_isEmpty at h
  split at h
  · cases h; exact pvCe_V (k := 1) (T := TX9) (N := 11) (metX9_isEmpty hf) rfl wd_1_1 rfl wd_4_198 wd_4_199 wd_4_200 pnX9_isEmpty rfl wd_4_201
  · cases h
set_option maxRecDepth 100000 in
theorem chL_isEmpty : ∀ pc, pvChain cL_isEmpty pc (bL_isEmpty pc) := by
  intro pc
  unfold bL_isEmpty
  split <;> first | exact True.intro | exact pvChain_of (by decide +kernel)
theorem shL_isEmpty {as : List pvV} {z : pvM} {Q : pvO → pvM → Prop} (h : C_X9_isEmpty as z Q) : ∃ v1 : Int, as = [vR 0, vI v1] := by
  unfold C_X9_isEmpty at h
  split at h
  · obtain ⟨rfl, -⟩ := h
    exact ⟨_, rfl⟩
  · exact h.elim
set_option maxRecDepth 100000 in
set_option maxHeartbeats 4000000 in
theorem owL_isEmpty : ∀ as z Q, C_L_isEmpty as z Q → pvOkS as → pvCs as ≤ 4 ∧ ∃ (a9 rest st9 : List pvV) (Q0 : pvO → pvM → Prop), pvPop 2 st9 [] = some (a9, rest) ∧ pvCs rest ≤ 8 ∧ pvRecv 60 8 a9 ∧ C_X9_isEmpty a9 z Q0 ∧
      pvB 60 (0, fun _ => 0) fL aL_isEmpty kL pvEx0 1 (fun pc ls' st z' g => pc = 4 ∧ ls' = pvEn as 4 ∧ st = st9 ∧ z' = z ∧ g = 0) (fun _ _ _ => False) (fun _ _ _ _ => False) (bL_isEmpty 0) 0 (pvEn as 4) [] z 0 ∧
      (∀ v z', Q0 (.inl v) z' → (∀ x, v = some x → pvOk x) → pvB 60 (0, fun _ => 0) fL aL_isEmpty kL pvEx0 1 (pvX 60 (0, fun _ => 0) fL aL_isEmpty kL pvEx0 1 (pvRt (some .int) Q) (fun _ _ _ _ => False) bL_isEmpty (fun _ => none) (fun _ _ _ _ => False) 9) (pvRt (some .int) Q) (fun _ _ _ _ => False) (bL_isEmpty (4 + 3)) (4 + 3) (pvEn as 4) (pvPush v rest) z' 0) ∧
      (∀ k z', Q0 (.inr k) z' → k ∈ [0] ∧ Q (.inl (some (vI (hfF [0] k)))) z') := by
  intro as z Q h hS
  unfold C_L_isEmpty at h
  split at h
  · obtain ⟨rfl, h⟩ := h
    have e := shL_isEmpty h
    obtain ⟨v1, e⟩ := e
    cases e
    refine ⟨Nat.le_of_ble_eq_true rfl, [vR 0, vI v1], [vI 0, vR 58], [vI v1, vR 0, vI 0, vR 58], wrB [0] Q, rfl, Nat.le_of_ble_eq_true rfl, ⟨rfl, by decide⟩, h, ?_, fun v z' hq hok => ?_, fun k z' hq => hq⟩
    · simp only [bL_isEmpty_0, bL_isEmpty_4, bL_isEmpty_7, bL_isEmpty_14, bL_isEmpty_15, bL_isEmpty_22, pvE_aload_n2, pvLA_s, pvLd, pvE_iconst, pvE_aload_n0, pvE_iload_n1, pvLI_s, pvE_invokevirtual, pvC1_s, pvC2_s, pvAf_v, pvAf_x, pvPop, pvCs, pvCat, pvPush, pvSh_0, pvSh_58, pvSh_59, pvE_if_eq, pvE_lconst1, pvE_goto, pvE_lconst0, pvE_lastore, pvAL, pvE_astore_n3, pvS1, List.length_cons, List.length_nil, pvClr_i, pvClr_r, pvClr_l, pvClr_d, pvClr_f, pvClr_n, pvE_ireturn, pvRecv_r, pvUp_nl, pvUp_same, pvUp_ap, pvSt_ap, pvX_c, pvX_ms, pvX_mn, pvE_nil, pvEn_i, pvEn_r, pvEn_l, pvEn_0, pvEn_s, pvRt, pvRv, pvTh, pvKc, pvGo, pvTgt, Int.toNat_natCast, false_and, and_false, true_and, and_true, if_true, if_false, reduceIte, reduceCtorEq, forall_const, false_or, or_false, true_or, or_true, ne_eq, not_true_eq_false, not_false_eq_true, implies_true, false_implies, Nat.reduceAdd, Nat.reduceSub, Nat.reduceMul, Nat.reduceEqDiff, Nat.reduceLT, Nat.reduceLeDiff, Int.reduceAdd, Int.reduceSub, Int.reduceMul, Int.reduceNeg, Int.reduceToNat, Int.reduceLE, Int.reduceLT, Int.reduceEq, Int.reduceNe, and_self, pvPush]
      (repeat' first | with_reducible apply And.intro | with_reducible intro _)
      all_goals first
        | omega
        | rfl
        | trivial
    rcases v with _ | (a | a | a | a | a)
    · exact hq.elim
    · simp only [wrB] at hq
      simp only [bL_isEmpty_0, bL_isEmpty_4, bL_isEmpty_7, bL_isEmpty_14, bL_isEmpty_15, bL_isEmpty_22, pvE_aload_n2, pvLA_s, pvLd, pvE_iconst, pvE_aload_n0, pvE_iload_n1, pvLI_s, pvE_invokevirtual, pvC1_s, pvC2_s, pvAf_v, pvAf_x, pvPop, pvCs, pvCat, pvPush, pvSh_0, pvSh_58, pvSh_59, pvE_if_eq, pvE_lconst1, pvE_goto, pvE_lconst0, pvE_lastore, pvAL, pvE_astore_n3, pvS1, List.length_cons, List.length_nil, pvClr_i, pvClr_r, pvClr_l, pvClr_d, pvClr_f, pvClr_n, pvE_ireturn, pvRecv_r, pvUp_nl, pvUp_same, pvUp_ap, pvSt_ap, pvX_c, pvX_ms, pvX_mn, pvE_nil, pvEn_i, pvEn_r, pvEn_l, pvEn_0, pvEn_s, pvRt, pvRv, pvTh, pvKc, pvGo, pvTgt, Int.toNat_natCast, false_and, and_false, true_and, and_true, if_true, if_false, reduceIte, reduceCtorEq, forall_const, false_or, or_false, true_or, or_true, ne_eq, not_true_eq_false, not_false_eq_true, implies_true, false_implies, Nat.reduceAdd, Nat.reduceSub, Nat.reduceMul, Nat.reduceEqDiff, Nat.reduceLT, Nat.reduceLeDiff, Int.reduceAdd, Int.reduceSub, Int.reduceMul, Int.reduceNeg, Int.reduceToNat, Int.reduceLE, Int.reduceLT, Int.reduceEq, Int.reduceNe, and_self, pvPush]
      (repeat' first | with_reducible apply And.intro | with_reducible intro _)
      all_goals first
        | omega
        | exact Or.inl rfl
        | (rename (_ : Int) = 0 => h0; subst h0; exact hq)
        | (rename ¬ (_ : Int) = 0 => h0; simp only [if_neg h0] at hq; exact hq)
    · exact hq.elim
    · exact hq.elim
    · exact hq.elim
    · exact hq.elim
  · exact h.elim
theorem hdL_isEmpty : ∀ i (x : Nat × Nat × Nat × Nat) (k : Nat), ([(0, 16, 19, 21)] : List (Nat × Nat × Nat × Nat))[i]? = some x → ([0] : List Nat)[i]? = some k → (x.1 ≤ 4 ∧ 4 < x.2.1 ∧ x.2.2.2 ≠ 0 ∧ pvHd cL_isEmpty 4 x.2.2.1 i) ∧ Cond.classLink "EventClockWorkbenchLaw" x.2.2.2 (pvXn k) ∈ pvTb := by
  intro i x k h1 h2
  match i, h1, h2 with
  | 0, h1, h2 => cases h1; cases h2; exact ⟨⟨by decide, by decide, by decide, ⟨3, by decide, Or.inl ⟨3, rfl, by decide +kernel, by decide +kernel, by decide +kernel⟩⟩⟩, wd_2_137⟩
  | n + 1, h1, h2 => simp at h1
theorem metWL_isEmpty {l : Launch} (hf : l.stackTraces = false) : pvMetW l yL_isEmpty (Cond.codeWith yL_isEmpty cL_isEmpty 4 (some .int) [(0, 16, 19, 21)] :: pvTb) mL_isEmpty C_L_isEmpty :=
  pvMetW_of (y := yL_isEmpty) 109 2 4 [0] plL coL foL (caL_isEmpty hf) rfl ⟨rfl, rfl⟩ chL_isEmpty (by decide +kernel) rfl (by decide) (by decide) (by decide) hdL_isEmpty owL_isEmpty
def bL_takeWitness : Nat → List (Instr × Nat)
  | 0 => [(.aload_n 2, 1), (.iconst 0, 1), (.aload_n 0, 1), (.iload_n 1, 1)]
  | 4 => [(.invokevirtual 112, 3)]
  | 7 => [(.i2l, 1), (.lastore, 1), (.goto 9, 3)]
  | 18 => [(.iconst 0, 1), (.ireturn, 1)]
  | _ => []
theorem bL_takeWitness_0 : bL_takeWitness 0 = [(.aload_n 2, 1), (.iconst 0, 1), (.aload_n 0, 1), (.iload_n 1, 1)] := rfl
theorem bL_takeWitness_4 : bL_takeWitness 4 = [(.invokevirtual 112, 3)] := rfl
theorem bL_takeWitness_7 : bL_takeWitness 7 = [(.i2l, 1), (.lastore, 1), (.goto 9, 3)] := rfl
theorem bL_takeWitness_18 : bL_takeWitness 18 = [(.iconst 0, 1), (.ireturn, 1)] := rfl
def aL_takeWitness : pvCa
  | 112 => some (2, false, 8, 0, C_X9_takeWitness)
  | _ => none
def mL_takeWitness : Room := { frames := 8, cells := 1, slots := 6, locals := 176 }
theorem pnL_takeWitness : pvPn yL_takeWitness = some 3 := by decide +kernel
theorem caL_takeWitness {l : Launch} (hf : l.stackTraces = false) : pvCaOk l mL_takeWitness "EventClockWorkbenchLaw" pvTb 60 aL_takeWitness := by
  refine pvCaOk_i fun ix n b ci co C h => ?_
  unfold aL_takeWitness at h
  split at h
  · cases h; exact pvCe_V (k := 1) (T := TX9) (N := 11) (metX9_takeWitness hf) rfl wd_1_1 rfl wd_5_7 wd_5_8 wd_5_9 pnX9_takeWitness rfl wd_5_10
  · cases h
set_option maxRecDepth 100000 in
theorem chL_takeWitness : ∀ pc, pvChain cL_takeWitness pc (bL_takeWitness pc) := by
  intro pc
  unfold bL_takeWitness
  split <;> first | exact True.intro | exact pvChain_of (by decide +kernel)
theorem shL_takeWitness {as : List pvV} {z : pvM} {Q : pvO → pvM → Prop} (h : C_X9_takeWitness as z Q) : ∃ v1 : Int, as = [vR 0, vI v1] := by
  unfold C_X9_takeWitness at h
  split at h
  · obtain ⟨rfl, -⟩ := h
    exact ⟨_, rfl⟩
  · exact h.elim
set_option maxRecDepth 100000 in
set_option maxHeartbeats 4000000 in
theorem owL_takeWitness : ∀ as z Q, C_L_takeWitness as z Q → pvOkS as → pvCs as ≤ 4 ∧ ∃ (a9 rest st9 : List pvV) (Q0 : pvO → pvM → Prop), pvPop 2 st9 [] = some (a9, rest) ∧ pvCs rest ≤ 8 ∧ pvRecv 60 8 a9 ∧ C_X9_takeWitness a9 z Q0 ∧
      pvB 60 (0, fun _ => 0) fL aL_takeWitness kL pvEx0 1 (fun pc ls' st z' g => pc = 4 ∧ ls' = pvEn as 4 ∧ st = st9 ∧ z' = z ∧ g = 0) (fun _ _ _ => False) (fun _ _ _ _ => False) (bL_takeWitness 0) 0 (pvEn as 4) [] z 0 ∧
      (∀ v z', Q0 (.inl v) z' → (∀ x, v = some x → pvOk x) → pvB 60 (0, fun _ => 0) fL aL_takeWitness kL pvEx0 1 (pvX 60 (0, fun _ => 0) fL aL_takeWitness kL pvEx0 1 (pvRt (some .int) Q) (fun _ _ _ _ => False) bL_takeWitness (fun _ => none) (fun _ _ _ _ => False) 9) (pvRt (some .int) Q) (fun _ _ _ _ => False) (bL_takeWitness (4 + 3)) (4 + 3) (pvEn as 4) (pvPush v rest) z' 0) ∧
      (∀ k z', Q0 (.inr k) z' → k ∈ [0, 3] ∧ Q (.inl (some (vI (hfF [0, 3] k)))) z') := by
  intro as z Q h hS
  unfold C_L_takeWitness at h
  split at h
  · obtain ⟨rfl, h⟩ := h
    have e := shL_takeWitness h
    obtain ⟨v1, e⟩ := e
    cases e
    refine ⟨Nat.le_of_ble_eq_true rfl, [vR 0, vI v1], [vI 0, vR 58], [vI v1, vR 0, vI 0, vR 58], wrI [0, 3] Q, rfl, Nat.le_of_ble_eq_true rfl, ⟨rfl, by decide⟩, h, ?_, fun v z' hq hok => ?_, fun k z' hq => hq⟩
    · simp only [bL_takeWitness_0, bL_takeWitness_4, bL_takeWitness_7, bL_takeWitness_18, pvE_aload_n2, pvLA_s, pvLd, pvE_iconst, pvE_aload_n0, pvE_iload_n1, pvLI_s, pvE_invokevirtual, pvC1_s, pvC2_s, pvAf_v, pvAf_x, pvPop, pvCs, pvCat, pvPush, pvSh_0, pvSh_58, pvSh_59, pvE_i2l, pvE_lastore, pvAL, pvE_goto, pvE_astore_n3, pvS1, List.length_cons, List.length_nil, pvClr_i, pvClr_r, pvClr_l, pvClr_d, pvClr_f, pvClr_n, pvE_ireturn, pvRecv_r, pvUp_nl, pvUp_same, pvUp_ap, pvSt_ap, pvX_c, pvX_ms, pvX_mn, pvE_nil, pvEn_i, pvEn_r, pvEn_l, pvEn_0, pvEn_s, pvRt, pvRv, pvTh, pvKc, pvGo, pvTgt, Int.toNat_natCast, false_and, and_false, true_and, and_true, if_true, if_false, reduceIte, reduceCtorEq, forall_const, false_or, or_false, true_or, or_true, ne_eq, not_true_eq_false, not_false_eq_true, implies_true, false_implies, Nat.reduceAdd, Nat.reduceSub, Nat.reduceMul, Nat.reduceEqDiff, Nat.reduceLT, Nat.reduceLeDiff, Int.reduceAdd, Int.reduceSub, Int.reduceMul, Int.reduceNeg, Int.reduceToNat, Int.reduceLE, Int.reduceLT, Int.reduceEq, Int.reduceNe, and_self, pvPush]
      (repeat' first | with_reducible apply And.intro | with_reducible intro _)
      all_goals first
        | omega
        | rfl
        | trivial
    rcases v with _ | (a | a | a | a | a)
    · exact hq.elim
    · simp only [wrI] at hq
      simp only [bL_takeWitness_0, bL_takeWitness_4, bL_takeWitness_7, bL_takeWitness_18, pvE_aload_n2, pvLA_s, pvLd, pvE_iconst, pvE_aload_n0, pvE_iload_n1, pvLI_s, pvE_invokevirtual, pvC1_s, pvC2_s, pvAf_v, pvAf_x, pvPop, pvCs, pvCat, pvPush, pvSh_0, pvSh_58, pvSh_59, pvE_i2l, pvE_lastore, pvAL, pvE_goto, pvE_astore_n3, pvS1, List.length_cons, List.length_nil, pvClr_i, pvClr_r, pvClr_l, pvClr_d, pvClr_f, pvClr_n, pvE_ireturn, pvRecv_r, pvUp_nl, pvUp_same, pvUp_ap, pvSt_ap, pvX_c, pvX_ms, pvX_mn, pvE_nil, pvEn_i, pvEn_r, pvEn_l, pvEn_0, pvEn_s, pvRt, pvRv, pvTh, pvKc, pvGo, pvTgt, Int.toNat_natCast, false_and, and_false, true_and, and_true, if_true, if_false, reduceIte, reduceCtorEq, forall_const, false_or, or_false, true_or, or_true, ne_eq, not_true_eq_false, not_false_eq_true, implies_true, false_implies, Nat.reduceAdd, Nat.reduceSub, Nat.reduceMul, Nat.reduceEqDiff, Nat.reduceLT, Nat.reduceLeDiff, Int.reduceAdd, Int.reduceSub, Int.reduceMul, Int.reduceNeg, Int.reduceToNat, Int.reduceLE, Int.reduceLT, Int.reduceEq, Int.reduceNe, and_self, pvPush]
      (repeat' first | with_reducible apply And.intro | with_reducible intro _)
      all_goals first
        | omega
        | exact Or.inl rfl
        | exact hq (hok _ rfl)
    · exact hq.elim
    · exact hq.elim
    · exact hq.elim
    · exact hq.elim
  · exact h.elim
theorem hdL_takeWitness : ∀ i (x : Nat × Nat × Nat × Nat) (k : Nat), ([(0, 9, 12, 21), (0, 9, 15, 80)] : List (Nat × Nat × Nat × Nat))[i]? = some x → ([0, 3] : List Nat)[i]? = some k → (x.1 ≤ 4 ∧ 4 < x.2.1 ∧ x.2.2.2 ≠ 0 ∧ pvHd cL_takeWitness 4 x.2.2.1 i) ∧ Cond.classLink "EventClockWorkbenchLaw" x.2.2.2 (pvXn k) ∈ pvTb := by
  intro i x k h1 h2
  match i, h1, h2 with
  | 0, h1, h2 => cases h1; cases h2; exact ⟨⟨by decide, by decide, by decide, ⟨3, by decide, Or.inl ⟨3, rfl, by decide +kernel, by decide +kernel, by decide +kernel⟩⟩⟩, wd_2_137⟩
  | 1, h1, h2 => cases h1; cases h2; exact ⟨⟨by decide, by decide, by decide, ⟨3, by decide, Or.inl ⟨3, rfl, by decide +kernel, by decide +kernel, by decide +kernel⟩⟩⟩, wd_4_4⟩
  | n + 2, h1, h2 => simp at h1
theorem metWL_takeWitness {l : Launch} (hf : l.stackTraces = false) : pvMetW l yL_takeWitness (Cond.codeWith yL_takeWitness cL_takeWitness 4 (some .int) [(0, 9, 12, 21), (0, 9, 15, 80)] :: pvTb) mL_takeWitness C_L_takeWitness :=
  pvMetW_of (y := yL_takeWitness) 112 2 4 [0, 3] plL coL foL (caL_takeWitness hf) rfl ⟨rfl, rfl⟩ chL_takeWitness (by decide +kernel) rfl (by decide) (by decide) (by decide) hdL_takeWitness owL_takeWitness
def bL_takeDifference : Nat → List (Instr × Nat)
  | 0 => [(.aload_n 2, 1), (.iconst 0, 1), (.aload_n 0, 1), (.iload_n 1, 1)]
  | 4 => [(.invokevirtual 115, 3)]
  | 7 => [(.i2l, 1), (.lastore, 1), (.goto 9, 3)]
  | 18 => [(.iconst 0, 1), (.ireturn, 1)]
  | _ => []
theorem bL_takeDifference_0 : bL_takeDifference 0 = [(.aload_n 2, 1), (.iconst 0, 1), (.aload_n 0, 1), (.iload_n 1, 1)] := rfl
theorem bL_takeDifference_4 : bL_takeDifference 4 = [(.invokevirtual 115, 3)] := rfl
theorem bL_takeDifference_7 : bL_takeDifference 7 = [(.i2l, 1), (.lastore, 1), (.goto 9, 3)] := rfl
theorem bL_takeDifference_18 : bL_takeDifference 18 = [(.iconst 0, 1), (.ireturn, 1)] := rfl
def aL_takeDifference : pvCa
  | 115 => some (2, false, 8, 0, C_X9_takeDifference)
  | _ => none
def mL_takeDifference : Room := { frames := 8, cells := 1, slots := 6, locals := 176 }
theorem pnL_takeDifference : pvPn yL_takeDifference = some 3 := by decide +kernel
theorem caL_takeDifference {l : Launch} (hf : l.stackTraces = false) : pvCaOk l mL_takeDifference "EventClockWorkbenchLaw" pvTb 60 aL_takeDifference := by
  refine pvCaOk_i fun ix n b ci co C h => ?_
  unfold aL_takeDifference at h
  split at h
  · cases h; exact pvCe_V (k := 1) (T := TX9) (N := 11) (metX9_takeDifference hf) rfl wd_1_1 rfl wd_5_45 wd_5_46 wd_5_47 pnX9_takeDifference rfl wd_5_48
  · cases h
set_option maxRecDepth 100000 in
theorem chL_takeDifference : ∀ pc, pvChain cL_takeDifference pc (bL_takeDifference pc) := by
  intro pc
  unfold bL_takeDifference
  split <;> first | exact True.intro | exact pvChain_of (by decide +kernel)
theorem shL_takeDifference {as : List pvV} {z : pvM} {Q : pvO → pvM → Prop} (h : C_X9_takeDifference as z Q) : ∃ v1 : Int, as = [vR 0, vI v1] := by
  unfold C_X9_takeDifference at h
  split at h
  · obtain ⟨rfl, -⟩ := h
    exact ⟨_, rfl⟩
  · exact h.elim
set_option maxRecDepth 100000 in
set_option maxHeartbeats 4000000 in
theorem owL_takeDifference : ∀ as z Q, C_L_takeDifference as z Q → pvOkS as → pvCs as ≤ 4 ∧ ∃ (a9 rest st9 : List pvV) (Q0 : pvO → pvM → Prop), pvPop 2 st9 [] = some (a9, rest) ∧ pvCs rest ≤ 8 ∧ pvRecv 60 8 a9 ∧ C_X9_takeDifference a9 z Q0 ∧
      pvB 60 (0, fun _ => 0) fL aL_takeDifference kL pvEx0 1 (fun pc ls' st z' g => pc = 4 ∧ ls' = pvEn as 4 ∧ st = st9 ∧ z' = z ∧ g = 0) (fun _ _ _ => False) (fun _ _ _ _ => False) (bL_takeDifference 0) 0 (pvEn as 4) [] z 0 ∧
      (∀ v z', Q0 (.inl v) z' → (∀ x, v = some x → pvOk x) → pvB 60 (0, fun _ => 0) fL aL_takeDifference kL pvEx0 1 (pvX 60 (0, fun _ => 0) fL aL_takeDifference kL pvEx0 1 (pvRt (some .int) Q) (fun _ _ _ _ => False) bL_takeDifference (fun _ => none) (fun _ _ _ _ => False) 9) (pvRt (some .int) Q) (fun _ _ _ _ => False) (bL_takeDifference (4 + 3)) (4 + 3) (pvEn as 4) (pvPush v rest) z' 0) ∧
      (∀ k z', Q0 (.inr k) z' → k ∈ [0, 3] ∧ Q (.inl (some (vI (hfF [0, 3] k)))) z') := by
  intro as z Q h hS
  unfold C_L_takeDifference at h
  split at h
  · obtain ⟨rfl, h⟩ := h
    have e := shL_takeDifference h
    obtain ⟨v1, e⟩ := e
    cases e
    refine ⟨Nat.le_of_ble_eq_true rfl, [vR 0, vI v1], [vI 0, vR 58], [vI v1, vR 0, vI 0, vR 58], wrI [0, 3] Q, rfl, Nat.le_of_ble_eq_true rfl, ⟨rfl, by decide⟩, h, ?_, fun v z' hq hok => ?_, fun k z' hq => hq⟩
    · simp only [bL_takeDifference_0, bL_takeDifference_4, bL_takeDifference_7, bL_takeDifference_18, pvE_aload_n2, pvLA_s, pvLd, pvE_iconst, pvE_aload_n0, pvE_iload_n1, pvLI_s, pvE_invokevirtual, pvC1_s, pvC2_s, pvAf_v, pvAf_x, pvPop, pvCs, pvCat, pvPush, pvSh_0, pvSh_58, pvSh_59, pvE_i2l, pvE_lastore, pvAL, pvE_goto, pvE_astore_n3, pvS1, List.length_cons, List.length_nil, pvClr_i, pvClr_r, pvClr_l, pvClr_d, pvClr_f, pvClr_n, pvE_ireturn, pvRecv_r, pvUp_nl, pvUp_same, pvUp_ap, pvSt_ap, pvX_c, pvX_ms, pvX_mn, pvE_nil, pvEn_i, pvEn_r, pvEn_l, pvEn_0, pvEn_s, pvRt, pvRv, pvTh, pvKc, pvGo, pvTgt, Int.toNat_natCast, false_and, and_false, true_and, and_true, if_true, if_false, reduceIte, reduceCtorEq, forall_const, false_or, or_false, true_or, or_true, ne_eq, not_true_eq_false, not_false_eq_true, implies_true, false_implies, Nat.reduceAdd, Nat.reduceSub, Nat.reduceMul, Nat.reduceEqDiff, Nat.reduceLT, Nat.reduceLeDiff, Int.reduceAdd, Int.reduceSub, Int.reduceMul, Int.reduceNeg, Int.reduceToNat, Int.reduceLE, Int.reduceLT, Int.reduceEq, Int.reduceNe, and_self, pvPush]
      (repeat' first | with_reducible apply And.intro | with_reducible intro _)
      all_goals first
        | omega
        | rfl
        | trivial
    rcases v with _ | (a | a | a | a | a)
    · exact hq.elim
    · simp only [wrI] at hq
      simp only [bL_takeDifference_0, bL_takeDifference_4, bL_takeDifference_7, bL_takeDifference_18, pvE_aload_n2, pvLA_s, pvLd, pvE_iconst, pvE_aload_n0, pvE_iload_n1, pvLI_s, pvE_invokevirtual, pvC1_s, pvC2_s, pvAf_v, pvAf_x, pvPop, pvCs, pvCat, pvPush, pvSh_0, pvSh_58, pvSh_59, pvE_i2l, pvE_lastore, pvAL, pvE_goto, pvE_astore_n3, pvS1, List.length_cons, List.length_nil, pvClr_i, pvClr_r, pvClr_l, pvClr_d, pvClr_f, pvClr_n, pvE_ireturn, pvRecv_r, pvUp_nl, pvUp_same, pvUp_ap, pvSt_ap, pvX_c, pvX_ms, pvX_mn, pvE_nil, pvEn_i, pvEn_r, pvEn_l, pvEn_0, pvEn_s, pvRt, pvRv, pvTh, pvKc, pvGo, pvTgt, Int.toNat_natCast, false_and, and_false, true_and, and_true, if_true, if_false, reduceIte, reduceCtorEq, forall_const, false_or, or_false, true_or, or_true, ne_eq, not_true_eq_false, not_false_eq_true, implies_true, false_implies, Nat.reduceAdd, Nat.reduceSub, Nat.reduceMul, Nat.reduceEqDiff, Nat.reduceLT, Nat.reduceLeDiff, Int.reduceAdd, Int.reduceSub, Int.reduceMul, Int.reduceNeg, Int.reduceToNat, Int.reduceLE, Int.reduceLT, Int.reduceEq, Int.reduceNe, and_self, pvPush]
      (repeat' first | with_reducible apply And.intro | with_reducible intro _)
      all_goals first
        | omega
        | exact Or.inl rfl
        | exact hq (hok _ rfl)
    · exact hq.elim
    · exact hq.elim
    · exact hq.elim
    · exact hq.elim
  · exact h.elim
theorem hdL_takeDifference : ∀ i (x : Nat × Nat × Nat × Nat) (k : Nat), ([(0, 9, 12, 21), (0, 9, 15, 80)] : List (Nat × Nat × Nat × Nat))[i]? = some x → ([0, 3] : List Nat)[i]? = some k → (x.1 ≤ 4 ∧ 4 < x.2.1 ∧ x.2.2.2 ≠ 0 ∧ pvHd cL_takeDifference 4 x.2.2.1 i) ∧ Cond.classLink "EventClockWorkbenchLaw" x.2.2.2 (pvXn k) ∈ pvTb := by
  intro i x k h1 h2
  match i, h1, h2 with
  | 0, h1, h2 => cases h1; cases h2; exact ⟨⟨by decide, by decide, by decide, ⟨3, by decide, Or.inl ⟨3, rfl, by decide +kernel, by decide +kernel, by decide +kernel⟩⟩⟩, wd_2_137⟩
  | 1, h1, h2 => cases h1; cases h2; exact ⟨⟨by decide, by decide, by decide, ⟨3, by decide, Or.inl ⟨3, rfl, by decide +kernel, by decide +kernel, by decide +kernel⟩⟩⟩, wd_4_4⟩
  | n + 2, h1, h2 => simp at h1
theorem metWL_takeDifference {l : Launch} (hf : l.stackTraces = false) : pvMetW l yL_takeDifference (Cond.codeWith yL_takeDifference cL_takeDifference 4 (some .int) [(0, 9, 12, 21), (0, 9, 15, 80)] :: pvTb) mL_takeDifference C_L_takeDifference :=
  pvMetW_of (y := yL_takeDifference) 115 2 4 [0, 3] plL coL foL (caL_takeDifference hf) rfl ⟨rfl, rfl⟩ chL_takeDifference (by decide +kernel) rfl (by decide) (by decide) (by decide) hdL_takeDifference owL_takeDifference
def bL_isIncluded : Nat → List (Instr × Nat)
  | 0 => [(.aload_n 2, 1), (.iconst 0, 1), (.aload_n 0, 1), (.iload_n 1, 1)]
  | 4 => [(.invokevirtual 118, 3)]
  | 7 => [(.ifCond .eq 7, 3), (.lconst 1, 1), (.goto 4, 3)]
  | 14 => [(.lconst 0, 1)]
  | 15 => [(.lastore, 1), (.goto 6, 3)]
  | 22 => [(.iconst 0, 1), (.ireturn, 1)]
  | _ => []
theorem bL_isIncluded_0 : bL_isIncluded 0 = [(.aload_n 2, 1), (.iconst 0, 1), (.aload_n 0, 1), (.iload_n 1, 1)] := rfl
theorem bL_isIncluded_4 : bL_isIncluded 4 = [(.invokevirtual 118, 3)] := rfl
theorem bL_isIncluded_7 : bL_isIncluded 7 = [(.ifCond .eq 7, 3), (.lconst 1, 1), (.goto 4, 3)] := rfl
theorem bL_isIncluded_14 : bL_isIncluded 14 = [(.lconst 0, 1)] := rfl
theorem bL_isIncluded_15 : bL_isIncluded 15 = [(.lastore, 1), (.goto 6, 3)] := rfl
theorem bL_isIncluded_22 : bL_isIncluded 22 = [(.iconst 0, 1), (.ireturn, 1)] := rfl
def aL_isIncluded : pvCa
  | 118 => some (2, false, 8, 0, C_X9_isIncluded)
  | _ => none
def mL_isIncluded : Room := { frames := 8, cells := 1, slots := 6, locals := 148 }
theorem pnL_isIncluded : pvPn yL_isIncluded = some 3 := by decide +kernel
theorem caL_isIncluded {l : Launch} (hf : l.stackTraces = false) : pvCaOk l mL_isIncluded "EventClockWorkbenchLaw" pvTb 60 aL_isIncluded := by
  refine pvCaOk_i fun ix n b ci co C h => ?_
  unfold aL_isIncluded at h
  split at h
  · cases h; exact pvCe_V (k := 1) (T := TX9) (N := 11) (metX9_isIncluded hf) rfl wd_1_1 rfl wd_5_52 wd_5_53 wd_5_54 pnX9_isIncluded rfl wd_5_55
  · cases h
set_option maxRecDepth 100000 in
theorem chL_isIncluded : ∀ pc, pvChain cL_isIncluded pc (bL_isIncluded pc) := by
  intro pc
  unfold bL_isIncluded
  split <;> first | exact True.intro | exact pvChain_of (by decide +kernel)
theorem shL_isIncluded {as : List pvV} {z : pvM} {Q : pvO → pvM → Prop} (h : C_X9_isIncluded as z Q) : ∃ v1 : Int, as = [vR 0, vI v1] := by
  unfold C_X9_isIncluded at h
  split at h
  · obtain ⟨rfl, -⟩ := h
    exact ⟨_, rfl⟩
  · exact h.elim
set_option maxRecDepth 100000 in
set_option maxHeartbeats 4000000 in
theorem owL_isIncluded : ∀ as z Q, C_L_isIncluded as z Q → pvOkS as → pvCs as ≤ 4 ∧ ∃ (a9 rest st9 : List pvV) (Q0 : pvO → pvM → Prop), pvPop 2 st9 [] = some (a9, rest) ∧ pvCs rest ≤ 8 ∧ pvRecv 60 8 a9 ∧ C_X9_isIncluded a9 z Q0 ∧
      pvB 60 (0, fun _ => 0) fL aL_isIncluded kL pvEx0 1 (fun pc ls' st z' g => pc = 4 ∧ ls' = pvEn as 4 ∧ st = st9 ∧ z' = z ∧ g = 0) (fun _ _ _ => False) (fun _ _ _ _ => False) (bL_isIncluded 0) 0 (pvEn as 4) [] z 0 ∧
      (∀ v z', Q0 (.inl v) z' → (∀ x, v = some x → pvOk x) → pvB 60 (0, fun _ => 0) fL aL_isIncluded kL pvEx0 1 (pvX 60 (0, fun _ => 0) fL aL_isIncluded kL pvEx0 1 (pvRt (some .int) Q) (fun _ _ _ _ => False) bL_isIncluded (fun _ => none) (fun _ _ _ _ => False) 9) (pvRt (some .int) Q) (fun _ _ _ _ => False) (bL_isIncluded (4 + 3)) (4 + 3) (pvEn as 4) (pvPush v rest) z' 0) ∧
      (∀ k z', Q0 (.inr k) z' → k ∈ [0] ∧ Q (.inl (some (vI (hfF [0] k)))) z') := by
  intro as z Q h hS
  unfold C_L_isIncluded at h
  split at h
  · obtain ⟨rfl, h⟩ := h
    have e := shL_isIncluded h
    obtain ⟨v1, e⟩ := e
    cases e
    refine ⟨Nat.le_of_ble_eq_true rfl, [vR 0, vI v1], [vI 0, vR 58], [vI v1, vR 0, vI 0, vR 58], wrB [0] Q, rfl, Nat.le_of_ble_eq_true rfl, ⟨rfl, by decide⟩, h, ?_, fun v z' hq hok => ?_, fun k z' hq => hq⟩
    · simp only [bL_isIncluded_0, bL_isIncluded_4, bL_isIncluded_7, bL_isIncluded_14, bL_isIncluded_15, bL_isIncluded_22, pvE_aload_n2, pvLA_s, pvLd, pvE_iconst, pvE_aload_n0, pvE_iload_n1, pvLI_s, pvE_invokevirtual, pvC1_s, pvC2_s, pvAf_v, pvAf_x, pvPop, pvCs, pvCat, pvPush, pvSh_0, pvSh_58, pvSh_59, pvE_if_eq, pvE_lconst1, pvE_goto, pvE_lconst0, pvE_lastore, pvAL, pvE_astore_n3, pvS1, List.length_cons, List.length_nil, pvClr_i, pvClr_r, pvClr_l, pvClr_d, pvClr_f, pvClr_n, pvE_ireturn, pvRecv_r, pvUp_nl, pvUp_same, pvUp_ap, pvSt_ap, pvX_c, pvX_ms, pvX_mn, pvE_nil, pvEn_i, pvEn_r, pvEn_l, pvEn_0, pvEn_s, pvRt, pvRv, pvTh, pvKc, pvGo, pvTgt, Int.toNat_natCast, false_and, and_false, true_and, and_true, if_true, if_false, reduceIte, reduceCtorEq, forall_const, false_or, or_false, true_or, or_true, ne_eq, not_true_eq_false, not_false_eq_true, implies_true, false_implies, Nat.reduceAdd, Nat.reduceSub, Nat.reduceMul, Nat.reduceEqDiff, Nat.reduceLT, Nat.reduceLeDiff, Int.reduceAdd, Int.reduceSub, Int.reduceMul, Int.reduceNeg, Int.reduceToNat, Int.reduceLE, Int.reduceLT, Int.reduceEq, Int.reduceNe, and_self, pvPush]
      (repeat' first | with_reducible apply And.intro | with_reducible intro _)
      all_goals first
        | omega
        | rfl
        | trivial
    rcases v with _ | (a | a | a | a | a)
    · exact hq.elim
    · simp only [wrB] at hq
      simp only [bL_isIncluded_0, bL_isIncluded_4, bL_isIncluded_7, bL_isIncluded_14, bL_isIncluded_15, bL_isIncluded_22, pvE_aload_n2, pvLA_s, pvLd, pvE_iconst, pvE_aload_n0, pvE_iload_n1, pvLI_s, pvE_invokevirtual, pvC1_s, pvC2_s, pvAf_v, pvAf_x, pvPop, pvCs, pvCat, pvPush, pvSh_0, pvSh_58, pvSh_59, pvE_if_eq, pvE_lconst1, pvE_goto, pvE_lconst0, pvE_lastore, pvAL, pvE_astore_n3, pvS1, List.length_cons, List.length_nil, pvClr_i, pvClr_r, pvClr_l, pvClr_d, pvClr_f, pvClr_n, pvE_ireturn, pvRecv_r, pvUp_nl, pvUp_same, pvUp_ap, pvSt_ap, pvX_c, pvX_ms, pvX_mn, pvE_nil, pvEn_i, pvEn_r, pvEn_l, pvEn_0, pvEn_s, pvRt, pvRv, pvTh, pvKc, pvGo, pvTgt, Int.toNat_natCast, false_and, and_false, true_and, and_true, if_true, if_false, reduceIte, reduceCtorEq, forall_const, false_or, or_false, true_or, or_true, ne_eq, not_true_eq_false, not_false_eq_true, implies_true, false_implies, Nat.reduceAdd, Nat.reduceSub, Nat.reduceMul, Nat.reduceEqDiff, Nat.reduceLT, Nat.reduceLeDiff, Int.reduceAdd, Int.reduceSub, Int.reduceMul, Int.reduceNeg, Int.reduceToNat, Int.reduceLE, Int.reduceLT, Int.reduceEq, Int.reduceNe, and_self, pvPush]
      (repeat' first | with_reducible apply And.intro | with_reducible intro _)
      all_goals first
        | omega
        | exact Or.inl rfl
        | (rename (_ : Int) = 0 => h0; subst h0; exact hq)
        | (rename ¬ (_ : Int) = 0 => h0; simp only [if_neg h0] at hq; exact hq)
    · exact hq.elim
    · exact hq.elim
    · exact hq.elim
    · exact hq.elim
  · exact h.elim
theorem hdL_isIncluded : ∀ i (x : Nat × Nat × Nat × Nat) (k : Nat), ([(0, 16, 19, 21)] : List (Nat × Nat × Nat × Nat))[i]? = some x → ([0] : List Nat)[i]? = some k → (x.1 ≤ 4 ∧ 4 < x.2.1 ∧ x.2.2.2 ≠ 0 ∧ pvHd cL_isIncluded 4 x.2.2.1 i) ∧ Cond.classLink "EventClockWorkbenchLaw" x.2.2.2 (pvXn k) ∈ pvTb := by
  intro i x k h1 h2
  match i, h1, h2 with
  | 0, h1, h2 => cases h1; cases h2; exact ⟨⟨by decide, by decide, by decide, ⟨3, by decide, Or.inl ⟨3, rfl, by decide +kernel, by decide +kernel, by decide +kernel⟩⟩⟩, wd_2_137⟩
  | n + 1, h1, h2 => simp at h1
theorem metWL_isIncluded {l : Launch} (hf : l.stackTraces = false) : pvMetW l yL_isIncluded (Cond.codeWith yL_isIncluded cL_isIncluded 4 (some .int) [(0, 16, 19, 21)] :: pvTb) mL_isIncluded C_L_isIncluded :=
  pvMetW_of (y := yL_isIncluded) 118 2 4 [0] plL coL foL (caL_isIncluded hf) rfl ⟨rfl, rfl⟩ chL_isIncluded (by decide +kernel) rfl (by decide) (by decide) (by decide) hdL_isIncluded owL_isIncluded
def bL_acceptedWords : Nat → List (Instr × Nat)
  | 0 => [(.aload 4, 2), (.iconst 0, 1), (.aload_n 0, 1), (.iload_n 1, 1), (.iload_n 2, 1), (.iload_n 3, 1)]
  | 7 => [(.invokevirtual 121, 3)]
  | 10 => [(.lastore, 1), (.goto 11, 3)]
  | 22 => [(.iconst 0, 1), (.ireturn, 1)]
  | _ => []
theorem bL_acceptedWords_0 : bL_acceptedWords 0 = [(.aload 4, 2), (.iconst 0, 1), (.aload_n 0, 1), (.iload_n 1, 1), (.iload_n 2, 1), (.iload_n 3, 1)] := rfl
theorem bL_acceptedWords_7 : bL_acceptedWords 7 = [(.invokevirtual 121, 3)] := rfl
theorem bL_acceptedWords_10 : bL_acceptedWords 10 = [(.lastore, 1), (.goto 11, 3)] := rfl
theorem bL_acceptedWords_22 : bL_acceptedWords 22 = [(.iconst 0, 1), (.ireturn, 1)] := rfl
def aL_acceptedWords : pvCa
  | 121 => some (4, false, 8, 0, C_X9_acceptedWords)
  | _ => none
def mL_acceptedWords : Room := { frames := 8, cells := 1, slots := 6, locals := 148 }
theorem pnL_acceptedWords : pvPn yL_acceptedWords = some 5 := by decide +kernel
theorem caL_acceptedWords {l : Launch} (hf : l.stackTraces = false) : pvCaOk l mL_acceptedWords "EventClockWorkbenchLaw" pvTb 60 aL_acceptedWords := by
  refine pvCaOk_i fun ix n b ci co C h => ?_
  unfold aL_acceptedWords at h
  split at h
  · cases h; exact pvCe_V (k := 3) (T := TX9) (N := 11) (metX9_acceptedWords hf) rfl wd_1_1 rfl wd_5_59 wd_5_60 wd_5_61 pnX9_acceptedWords rfl wd_5_62
  · cases h
set_option maxRecDepth 100000 in
theorem chL_acceptedWords : ∀ pc, pvChain cL_acceptedWords pc (bL_acceptedWords pc) := by
  intro pc
  unfold bL_acceptedWords
  split <;> first | exact True.intro | exact pvChain_of (by decide +kernel)
theorem shL_acceptedWords {as : List pvV} {z : pvM} {Q : pvO → pvM → Prop} (h : C_X9_acceptedWords as z Q) : ∃ v1 v2 v3 : Int, as = [vR 0, vI v1, vI v2, vI v3] := by
  unfold C_X9_acceptedWords at h
  split at h
  · obtain ⟨rfl, -⟩ := h
    exact ⟨_, _, _, rfl⟩
  · exact h.elim
set_option maxRecDepth 100000 in
set_option maxHeartbeats 4000000 in
theorem owL_acceptedWords : ∀ as z Q, C_L_acceptedWords as z Q → pvOkS as → pvCs as ≤ 6 ∧ ∃ (a9 rest st9 : List pvV) (Q0 : pvO → pvM → Prop), pvPop 4 st9 [] = some (a9, rest) ∧ pvCs rest ≤ 8 ∧ pvRecv 60 8 a9 ∧ C_X9_acceptedWords a9 z Q0 ∧
      pvB 60 (0, fun _ => 0) fL aL_acceptedWords kL pvEx0 1 (fun pc ls' st z' g => pc = 7 ∧ ls' = pvEn as 6 ∧ st = st9 ∧ z' = z ∧ g = 0) (fun _ _ _ => False) (fun _ _ _ _ => False) (bL_acceptedWords 0) 0 (pvEn as 6) [] z 0 ∧
      (∀ v z', Q0 (.inl v) z' → (∀ x, v = some x → pvOk x) → pvB 60 (0, fun _ => 0) fL aL_acceptedWords kL pvEx0 1 (pvX 60 (0, fun _ => 0) fL aL_acceptedWords kL pvEx0 1 (pvRt (some .int) Q) (fun _ _ _ _ => False) bL_acceptedWords (fun _ => none) (fun _ _ _ _ => False) 9) (pvRt (some .int) Q) (fun _ _ _ _ => False) (bL_acceptedWords (7 + 3)) (7 + 3) (pvEn as 6) (pvPush v rest) z' 0) ∧
      (∀ k z', Q0 (.inr k) z' → k ∈ [0, 1] ∧ Q (.inl (some (vI (hfF [0, 1] k)))) z') := by
  intro as z Q h hS
  unfold C_L_acceptedWords at h
  split at h
  · obtain ⟨rfl, h⟩ := h
    have e := shL_acceptedWords h
    obtain ⟨v1, v2, v3, e⟩ := e
    cases e
    refine ⟨Nat.le_of_ble_eq_true rfl, [vR 0, vI v1, vI v2, vI v3], [vI 0, vR 58], [vI v3, vI v2, vI v1, vR 0, vI 0, vR 58], wrL [0, 1] Q, rfl, Nat.le_of_ble_eq_true rfl, ⟨rfl, by decide⟩, h, ?_, fun v z' hq hok => ?_, fun k z' hq => hq⟩
    · simp only [bL_acceptedWords_0, bL_acceptedWords_7, bL_acceptedWords_10, bL_acceptedWords_22, pvE_aload, pvLA_s, pvLd, pvE_iconst, pvE_aload_n0, pvE_iload_n1, pvLI_s, pvE_iload_n2, pvE_iload_n3, pvE_invokevirtual, pvC1_s, pvC2_s, pvAf_v, pvAf_x, pvPop, pvCs, pvCat, pvPush, pvSh_0, pvSh_58, pvSh_59, pvE_lastore, pvAL, pvE_goto, pvE_astore, pvS1, List.length_cons, List.length_nil, pvClr_i, pvClr_r, pvClr_l, pvClr_d, pvClr_f, pvClr_n, pvE_ireturn, pvRecv_r, pvUp_nl, pvUp_same, pvUp_ap, pvSt_ap, pvX_c, pvX_ms, pvX_mn, pvE_nil, pvEn_i, pvEn_r, pvEn_l, pvEn_0, pvEn_s, pvRt, pvRv, pvTh, pvKc, pvGo, pvTgt, Int.toNat_natCast, false_and, and_false, true_and, and_true, if_true, if_false, reduceIte, reduceCtorEq, forall_const, false_or, or_false, true_or, or_true, ne_eq, not_true_eq_false, not_false_eq_true, implies_true, false_implies, Nat.reduceAdd, Nat.reduceSub, Nat.reduceMul, Nat.reduceEqDiff, Nat.reduceLT, Nat.reduceLeDiff, Int.reduceAdd, Int.reduceSub, Int.reduceMul, Int.reduceNeg, Int.reduceToNat, Int.reduceLE, Int.reduceLT, Int.reduceEq, Int.reduceNe, and_self, pvPush]
      (repeat' first | with_reducible apply And.intro | with_reducible intro _)
      all_goals first
        | omega
        | rfl
        | trivial
    rcases v with _ | (a | a | a | a | a)
    · exact hq.elim
    · exact hq.elim
    · simp only [wrL] at hq
      simp only [bL_acceptedWords_0, bL_acceptedWords_7, bL_acceptedWords_10, bL_acceptedWords_22, pvE_aload, pvLA_s, pvLd, pvE_iconst, pvE_aload_n0, pvE_iload_n1, pvLI_s, pvE_iload_n2, pvE_iload_n3, pvE_invokevirtual, pvC1_s, pvC2_s, pvAf_v, pvAf_x, pvPop, pvCs, pvCat, pvPush, pvSh_0, pvSh_58, pvSh_59, pvE_lastore, pvAL, pvE_goto, pvE_astore, pvS1, List.length_cons, List.length_nil, pvClr_i, pvClr_r, pvClr_l, pvClr_d, pvClr_f, pvClr_n, pvE_ireturn, pvRecv_r, pvUp_nl, pvUp_same, pvUp_ap, pvSt_ap, pvX_c, pvX_ms, pvX_mn, pvE_nil, pvEn_i, pvEn_r, pvEn_l, pvEn_0, pvEn_s, pvRt, pvRv, pvTh, pvKc, pvGo, pvTgt, Int.toNat_natCast, false_and, and_false, true_and, and_true, if_true, if_false, reduceIte, reduceCtorEq, forall_const, false_or, or_false, true_or, or_true, ne_eq, not_true_eq_false, not_false_eq_true, implies_true, false_implies, Nat.reduceAdd, Nat.reduceSub, Nat.reduceMul, Nat.reduceEqDiff, Nat.reduceLT, Nat.reduceLeDiff, Int.reduceAdd, Int.reduceSub, Int.reduceMul, Int.reduceNeg, Int.reduceToNat, Int.reduceLE, Int.reduceLT, Int.reduceEq, Int.reduceNe, and_self, pvPush]
      (repeat' first | with_reducible apply And.intro | with_reducible intro _)
      all_goals first
        | omega
        | exact Or.inl rfl
        | exact hq
    · exact hq.elim
    · exact hq.elim
    · exact hq.elim
  · exact h.elim
theorem hdL_acceptedWords : ∀ i (x : Nat × Nat × Nat × Nat) (k : Nat), ([(0, 11, 14, 21), (0, 11, 18, 13)] : List (Nat × Nat × Nat × Nat))[i]? = some x → ([0, 1] : List Nat)[i]? = some k → (x.1 ≤ 7 ∧ 7 < x.2.1 ∧ x.2.2.2 ≠ 0 ∧ pvHd cL_acceptedWords 6 x.2.2.1 i) ∧ Cond.classLink "EventClockWorkbenchLaw" x.2.2.2 (pvXn k) ∈ pvTb := by
  intro i x k h1 h2
  match i, h1, h2 with
  | 0, h1, h2 => cases h1; cases h2; exact ⟨⟨by decide, by decide, by decide, ⟨5, by decide, Or.inr ⟨by decide +kernel, by decide +kernel, by decide +kernel⟩⟩⟩, wd_2_137⟩
  | 1, h1, h2 => cases h1; cases h2; exact ⟨⟨by decide, by decide, by decide, ⟨5, by decide, Or.inr ⟨by decide +kernel, by decide +kernel, by decide +kernel⟩⟩⟩, wd_2_31⟩
  | n + 2, h1, h2 => simp at h1
theorem metWL_acceptedWords {l : Launch} (hf : l.stackTraces = false) : pvMetW l yL_acceptedWords (Cond.codeWith yL_acceptedWords cL_acceptedWords 6 (some .int) [(0, 11, 14, 21), (0, 11, 18, 13)] :: pvTb) mL_acceptedWords C_L_acceptedWords :=
  pvMetW_of (y := yL_acceptedWords) 121 4 7 [0, 1] plL coL foL (caL_acceptedWords hf) rfl ⟨rfl, rfl⟩ chL_acceptedWords (by decide +kernel) rfl (by decide) (by decide) (by decide) hdL_acceptedWords owL_acceptedWords
def bL_acceptedShare : Nat → List (Instr × Nat)
  | 0 => [(.aload_n 3, 1), (.iconst 0, 1), (.aload_n 0, 1), (.iload_n 1, 1), (.iload_n 2, 1)]
  | 5 => [(.invokevirtual 125, 3)]
  | 8 => [(.dastore, 1), (.goto 11, 3)]
  | 20 => [(.iconst 0, 1), (.ireturn, 1)]
  | _ => []
theorem bL_acceptedShare_0 : bL_acceptedShare 0 = [(.aload_n 3, 1), (.iconst 0, 1), (.aload_n 0, 1), (.iload_n 1, 1), (.iload_n 2, 1)] := rfl
theorem bL_acceptedShare_5 : bL_acceptedShare 5 = [(.invokevirtual 125, 3)] := rfl
theorem bL_acceptedShare_8 : bL_acceptedShare 8 = [(.dastore, 1), (.goto 11, 3)] := rfl
theorem bL_acceptedShare_20 : bL_acceptedShare 20 = [(.iconst 0, 1), (.ireturn, 1)] := rfl
def aL_acceptedShare : pvCa
  | 125 => some (3, false, 8, 0, C_X9_acceptedShare)
  | _ => none
def mL_acceptedShare : Room := { frames := 8, cells := 1, slots := 6, locals := 149 }
theorem pnL_acceptedShare : pvPn yL_acceptedShare = some 4 := by decide +kernel
theorem caL_acceptedShare {l : Launch} (hf : l.stackTraces = false) : pvCaOk l mL_acceptedShare "EventClockWorkbenchLaw" pvTb 60 aL_acceptedShare := by
  refine pvCaOk_i fun ix n b ci co C h => ?_
  unfold aL_acceptedShare at h
  split at h
  · cases h; exact pvCe_V (k := 2) (T := TX9) (N := 11) (metX9_acceptedShare hf) rfl wd_1_1 rfl wd_5_86 wd_5_87 wd_5_88 pnX9_acceptedShare rfl wd_5_89
  · cases h
set_option maxRecDepth 100000 in
theorem chL_acceptedShare : ∀ pc, pvChain cL_acceptedShare pc (bL_acceptedShare pc) := by
  intro pc
  unfold bL_acceptedShare
  split <;> first | exact True.intro | exact pvChain_of (by decide +kernel)
theorem shL_acceptedShare {as : List pvV} {z : pvM} {Q : pvO → pvM → Prop} (h : C_X9_acceptedShare as z Q) : ∃ v1 v2 : Int, as = [vR 0, vI v1, vI v2] := by
  unfold C_X9_acceptedShare at h
  split at h
  · obtain ⟨rfl, -⟩ := h
    exact ⟨_, _, rfl⟩
  · exact h.elim
set_option maxRecDepth 100000 in
set_option maxHeartbeats 4000000 in
theorem owL_acceptedShare : ∀ as z Q, C_L_acceptedShare as z Q → pvOkS as → pvCs as ≤ 5 ∧ ∃ (a9 rest st9 : List pvV) (Q0 : pvO → pvM → Prop), pvPop 3 st9 [] = some (a9, rest) ∧ pvCs rest ≤ 8 ∧ pvRecv 60 8 a9 ∧ C_X9_acceptedShare a9 z Q0 ∧
      pvB 60 (0, fun _ => 0) fL aL_acceptedShare kL pvEx0 1 (fun pc ls' st z' g => pc = 5 ∧ ls' = pvEn as 5 ∧ st = st9 ∧ z' = z ∧ g = 0) (fun _ _ _ => False) (fun _ _ _ _ => False) (bL_acceptedShare 0) 0 (pvEn as 5) [] z 0 ∧
      (∀ v z', Q0 (.inl v) z' → (∀ x, v = some x → pvOk x) → pvB 60 (0, fun _ => 0) fL aL_acceptedShare kL pvEx0 1 (pvX 60 (0, fun _ => 0) fL aL_acceptedShare kL pvEx0 1 (pvRt (some .int) Q) (fun _ _ _ _ => False) bL_acceptedShare (fun _ => none) (fun _ _ _ _ => False) 9) (pvRt (some .int) Q) (fun _ _ _ _ => False) (bL_acceptedShare (5 + 3)) (5 + 3) (pvEn as 5) (pvPush v rest) z' 0) ∧
      (∀ k z', Q0 (.inr k) z' → k ∈ [0, 1] ∧ Q (.inl (some (vI (hfF [0, 1] k)))) z') := by
  intro as z Q h hS
  unfold C_L_acceptedShare at h
  split at h
  · obtain ⟨rfl, h⟩ := h
    have e := shL_acceptedShare h
    obtain ⟨v1, v2, e⟩ := e
    cases e
    refine ⟨Nat.le_of_ble_eq_true rfl, [vR 0, vI v1, vI v2], [vI 0, vR 59], [vI v2, vI v1, vR 0, vI 0, vR 59], wrD [0, 1] Q, rfl, Nat.le_of_ble_eq_true rfl, ⟨rfl, by decide⟩, h, ?_, fun v z' hq hok => ?_, fun k z' hq => hq⟩
    · simp only [bL_acceptedShare_0, bL_acceptedShare_5, bL_acceptedShare_8, bL_acceptedShare_20, pvE_aload_n3, pvLA_s, pvLd, pvE_iconst, pvE_aload_n0, pvE_iload_n1, pvLI_s, pvE_iload_n2, pvE_invokevirtual, pvC1_s, pvC2_s, pvAf_v, pvAf_x, pvPop, pvCs, pvCat, pvPush, pvSh_0, pvSh_58, pvSh_59, pvE_dastore, pvAD, pvE_goto, pvE_astore, pvS1, List.length_cons, List.length_nil, pvClr_i, pvClr_r, pvClr_l, pvClr_d, pvClr_f, pvClr_n, pvE_ireturn, pvRecv_r, pvUp_nl, pvUp_same, pvUp_ap, pvSt_ap, pvX_c, pvX_ms, pvX_mn, pvE_nil, pvEn_i, pvEn_r, pvEn_l, pvEn_0, pvEn_s, pvRt, pvRv, pvTh, pvKc, pvGo, pvTgt, Int.toNat_natCast, false_and, and_false, true_and, and_true, if_true, if_false, reduceIte, reduceCtorEq, forall_const, false_or, or_false, true_or, or_true, ne_eq, not_true_eq_false, not_false_eq_true, implies_true, false_implies, Nat.reduceAdd, Nat.reduceSub, Nat.reduceMul, Nat.reduceEqDiff, Nat.reduceLT, Nat.reduceLeDiff, Int.reduceAdd, Int.reduceSub, Int.reduceMul, Int.reduceNeg, Int.reduceToNat, Int.reduceLE, Int.reduceLT, Int.reduceEq, Int.reduceNe, and_self, pvPush]
      (repeat' first | with_reducible apply And.intro | with_reducible intro _)
      all_goals first
        | omega
        | rfl
        | trivial
    rcases v with _ | (a | a | a | a | a)
    · exact hq.elim
    · exact hq.elim
    · exact hq.elim
    · exact hq.elim
    · simp only [wrD] at hq
      simp only [bL_acceptedShare_0, bL_acceptedShare_5, bL_acceptedShare_8, bL_acceptedShare_20, pvE_aload_n3, pvLA_s, pvLd, pvE_iconst, pvE_aload_n0, pvE_iload_n1, pvLI_s, pvE_iload_n2, pvE_invokevirtual, pvC1_s, pvC2_s, pvAf_v, pvAf_x, pvPop, pvCs, pvCat, pvPush, pvSh_0, pvSh_58, pvSh_59, pvE_dastore, pvAD, pvE_goto, pvE_astore, pvS1, List.length_cons, List.length_nil, pvClr_i, pvClr_r, pvClr_l, pvClr_d, pvClr_f, pvClr_n, pvE_ireturn, pvRecv_r, pvUp_nl, pvUp_same, pvUp_ap, pvSt_ap, pvX_c, pvX_ms, pvX_mn, pvE_nil, pvEn_i, pvEn_r, pvEn_l, pvEn_0, pvEn_s, pvRt, pvRv, pvTh, pvKc, pvGo, pvTgt, Int.toNat_natCast, false_and, and_false, true_and, and_true, if_true, if_false, reduceIte, reduceCtorEq, forall_const, false_or, or_false, true_or, or_true, ne_eq, not_true_eq_false, not_false_eq_true, implies_true, false_implies, Nat.reduceAdd, Nat.reduceSub, Nat.reduceMul, Nat.reduceEqDiff, Nat.reduceLT, Nat.reduceLeDiff, Int.reduceAdd, Int.reduceSub, Int.reduceMul, Int.reduceNeg, Int.reduceToNat, Int.reduceLE, Int.reduceLT, Int.reduceEq, Int.reduceNe, and_self, pvPush]
      (repeat' first | with_reducible apply And.intro | with_reducible intro _)
      all_goals first
        | omega
        | exact Or.inl rfl
        | exact hq.2
    · exact hq.elim
  · exact h.elim
theorem hdL_acceptedShare : ∀ i (x : Nat × Nat × Nat × Nat) (k : Nat), ([(0, 9, 12, 21), (0, 9, 16, 13)] : List (Nat × Nat × Nat × Nat))[i]? = some x → ([0, 1] : List Nat)[i]? = some k → (x.1 ≤ 5 ∧ 5 < x.2.1 ∧ x.2.2.2 ≠ 0 ∧ pvHd cL_acceptedShare 5 x.2.2.1 i) ∧ Cond.classLink "EventClockWorkbenchLaw" x.2.2.2 (pvXn k) ∈ pvTb := by
  intro i x k h1 h2
  match i, h1, h2 with
  | 0, h1, h2 => cases h1; cases h2; exact ⟨⟨by decide, by decide, by decide, ⟨4, by decide, Or.inr ⟨by decide +kernel, by decide +kernel, by decide +kernel⟩⟩⟩, wd_2_137⟩
  | 1, h1, h2 => cases h1; cases h2; exact ⟨⟨by decide, by decide, by decide, ⟨4, by decide, Or.inr ⟨by decide +kernel, by decide +kernel, by decide +kernel⟩⟩⟩, wd_2_31⟩
  | n + 2, h1, h2 => simp at h1
theorem metWL_acceptedShare {l : Launch} (hf : l.stackTraces = false) : pvMetW l yL_acceptedShare (Cond.codeWith yL_acceptedShare cL_acceptedShare 5 (some .int) [(0, 9, 12, 21), (0, 9, 16, 13)] :: pvTb) mL_acceptedShare C_L_acceptedShare :=
  pvMetW_of (y := yL_acceptedShare) 125 3 5 [0, 1] plL coL foL (caL_acceptedShare hf) rfl ⟨rfl, rfl⟩ chL_acceptedShare (by decide +kernel) rfl (by decide) (by decide) (by decide) hdL_acceptedShare owL_acceptedShare
def bL_averageBranches : Nat → List (Instr × Nat)
  | 0 => [(.aload_n 2, 1), (.iconst 0, 1), (.aload_n 0, 1), (.iload_n 1, 1)]
  | 4 => [(.invokevirtual 129, 3)]
  | 7 => [(.f2d, 1), (.dastore, 1), (.goto 6, 3)]
  | 15 => [(.iconst 0, 1), (.ireturn, 1)]
  | _ => []
theorem bL_averageBranches_0 : bL_averageBranches 0 = [(.aload_n 2, 1), (.iconst 0, 1), (.aload_n 0, 1), (.iload_n 1, 1)] := rfl
theorem bL_averageBranches_4 : bL_averageBranches 4 = [(.invokevirtual 129, 3)] := rfl
theorem bL_averageBranches_7 : bL_averageBranches 7 = [(.f2d, 1), (.dastore, 1), (.goto 6, 3)] := rfl
theorem bL_averageBranches_15 : bL_averageBranches 15 = [(.iconst 0, 1), (.ireturn, 1)] := rfl
def aL_averageBranches : pvCa
  | 129 => some (2, false, 8, 0, C_X9_averageBranches)
  | _ => none
def mL_averageBranches : Room := { frames := 8, cells := 1, slots := 6, locals := 136 }
theorem pnL_averageBranches : pvPn yL_averageBranches = some 3 := by decide +kernel
theorem caL_averageBranches {l : Launch} (hf : l.stackTraces = false) : pvCaOk l mL_averageBranches "EventClockWorkbenchLaw" pvTb 60 aL_averageBranches := by
  refine pvCaOk_i fun ix n b ci co C h => ?_
  unfold aL_averageBranches at h
  split at h
  · cases h; exact pvCe_V (k := 1) (T := TX9) (N := 11) (metX9_averageBranches hf) rfl wd_1_1 rfl wd_5_97 wd_5_98 wd_5_99 pnX9_averageBranches rfl wd_5_100
  · cases h
set_option maxRecDepth 100000 in
theorem chL_averageBranches : ∀ pc, pvChain cL_averageBranches pc (bL_averageBranches pc) := by
  intro pc
  unfold bL_averageBranches
  split <;> first | exact True.intro | exact pvChain_of (by decide +kernel)
theorem shL_averageBranches {as : List pvV} {z : pvM} {Q : pvO → pvM → Prop} (h : C_X9_averageBranches as z Q) : ∃ v1 : Int, as = [vR 0, vI v1] := by
  unfold C_X9_averageBranches at h
  split at h
  · obtain ⟨rfl, -⟩ := h
    exact ⟨_, rfl⟩
  · exact h.elim
set_option maxRecDepth 100000 in
set_option maxHeartbeats 4000000 in
theorem owL_averageBranches : ∀ as z Q, C_L_averageBranches as z Q → pvOkS as → pvCs as ≤ 4 ∧ ∃ (a9 rest st9 : List pvV) (Q0 : pvO → pvM → Prop), pvPop 2 st9 [] = some (a9, rest) ∧ pvCs rest ≤ 8 ∧ pvRecv 60 8 a9 ∧ C_X9_averageBranches a9 z Q0 ∧
      pvB 60 (0, fun _ => 0) fL aL_averageBranches kL pvEx0 1 (fun pc ls' st z' g => pc = 4 ∧ ls' = pvEn as 4 ∧ st = st9 ∧ z' = z ∧ g = 0) (fun _ _ _ => False) (fun _ _ _ _ => False) (bL_averageBranches 0) 0 (pvEn as 4) [] z 0 ∧
      (∀ v z', Q0 (.inl v) z' → (∀ x, v = some x → pvOk x) → pvB 60 (0, fun _ => 0) fL aL_averageBranches kL pvEx0 1 (pvX 60 (0, fun _ => 0) fL aL_averageBranches kL pvEx0 1 (pvRt (some .int) Q) (fun _ _ _ _ => False) bL_averageBranches (fun _ => none) (fun _ _ _ _ => False) 9) (pvRt (some .int) Q) (fun _ _ _ _ => False) (bL_averageBranches (4 + 3)) (4 + 3) (pvEn as 4) (pvPush v rest) z' 0) ∧
      (∀ k z', Q0 (.inr k) z' → k ∈ [0] ∧ Q (.inl (some (vI (hfF [0] k)))) z') := by
  intro as z Q h hS
  unfold C_L_averageBranches at h
  split at h
  · obtain ⟨rfl, h⟩ := h
    have e := shL_averageBranches h
    obtain ⟨v1, e⟩ := e
    cases e
    refine ⟨Nat.le_of_ble_eq_true rfl, [vR 0, vI v1], [vI 0, vR 59], [vI v1, vR 0, vI 0, vR 59], wrF [0] Q, rfl, Nat.le_of_ble_eq_true rfl, ⟨rfl, by decide⟩, h, ?_, fun v z' hq hok => ?_, fun k z' hq => hq⟩
    · simp only [bL_averageBranches_0, bL_averageBranches_4, bL_averageBranches_7, bL_averageBranches_15, pvE_aload_n2, pvLA_s, pvLd, pvE_iconst, pvE_aload_n0, pvE_iload_n1, pvLI_s, pvE_invokevirtual, pvC1_s, pvC2_s, pvAf_v, pvAf_x, pvPop, pvCs, pvCat, pvPush, pvSh_0, pvSh_58, pvSh_59, pvE_f2d, pvE_dastore, pvAD, pvE_goto, pvE_astore_n3, pvS1, List.length_cons, List.length_nil, pvClr_i, pvClr_r, pvClr_l, pvClr_d, pvClr_f, pvClr_n, pvE_ireturn, pvRecv_r, pvUp_nl, pvUp_same, pvUp_ap, pvSt_ap, pvX_c, pvX_ms, pvX_mn, pvE_nil, pvEn_i, pvEn_r, pvEn_l, pvEn_0, pvEn_s, pvRt, pvRv, pvTh, pvKc, pvGo, pvTgt, Int.toNat_natCast, false_and, and_false, true_and, and_true, if_true, if_false, reduceIte, reduceCtorEq, forall_const, false_or, or_false, true_or, or_true, ne_eq, not_true_eq_false, not_false_eq_true, implies_true, false_implies, Nat.reduceAdd, Nat.reduceSub, Nat.reduceMul, Nat.reduceEqDiff, Nat.reduceLT, Nat.reduceLeDiff, Int.reduceAdd, Int.reduceSub, Int.reduceMul, Int.reduceNeg, Int.reduceToNat, Int.reduceLE, Int.reduceLT, Int.reduceEq, Int.reduceNe, and_self, pvPush]
      (repeat' first | with_reducible apply And.intro | with_reducible intro _)
      all_goals first
        | omega
        | rfl
        | trivial
    rcases v with _ | (a | a | a | a | a)
    · exact hq.elim
    · exact hq.elim
    · exact hq.elim
    · exact hq.elim
    · exact hq.elim
    · simp only [wrF] at hq
      simp only [bL_averageBranches_0, bL_averageBranches_4, bL_averageBranches_7, bL_averageBranches_15, pvE_aload_n2, pvLA_s, pvLd, pvE_iconst, pvE_aload_n0, pvE_iload_n1, pvLI_s, pvE_invokevirtual, pvC1_s, pvC2_s, pvAf_v, pvAf_x, pvPop, pvCs, pvCat, pvPush, pvSh_0, pvSh_58, pvSh_59, pvE_f2d, pvE_dastore, pvAD, pvE_goto, pvE_astore_n3, pvS1, List.length_cons, List.length_nil, pvClr_i, pvClr_r, pvClr_l, pvClr_d, pvClr_f, pvClr_n, pvE_ireturn, pvRecv_r, pvUp_nl, pvUp_same, pvUp_ap, pvSt_ap, pvX_c, pvX_ms, pvX_mn, pvE_nil, pvEn_i, pvEn_r, pvEn_l, pvEn_0, pvEn_s, pvRt, pvRv, pvTh, pvKc, pvGo, pvTgt, Int.toNat_natCast, false_and, and_false, true_and, and_true, if_true, if_false, reduceIte, reduceCtorEq, forall_const, false_or, or_false, true_or, or_true, ne_eq, not_true_eq_false, not_false_eq_true, implies_true, false_implies, Nat.reduceAdd, Nat.reduceSub, Nat.reduceMul, Nat.reduceEqDiff, Nat.reduceLT, Nat.reduceLeDiff, Int.reduceAdd, Int.reduceSub, Int.reduceMul, Int.reduceNeg, Int.reduceToNat, Int.reduceLE, Int.reduceLT, Int.reduceEq, Int.reduceNe, and_self, pvPush]
      (repeat' first | with_reducible apply And.intro | with_reducible intro _)
      all_goals first
        | omega
        | exact Or.inl rfl
        | exact f2d_n hq.1
        | exact hq.2
  · exact h.elim
theorem hdL_averageBranches : ∀ i (x : Nat × Nat × Nat × Nat) (k : Nat), ([(0, 9, 12, 21)] : List (Nat × Nat × Nat × Nat))[i]? = some x → ([0] : List Nat)[i]? = some k → (x.1 ≤ 4 ∧ 4 < x.2.1 ∧ x.2.2.2 ≠ 0 ∧ pvHd cL_averageBranches 4 x.2.2.1 i) ∧ Cond.classLink "EventClockWorkbenchLaw" x.2.2.2 (pvXn k) ∈ pvTb := by
  intro i x k h1 h2
  match i, h1, h2 with
  | 0, h1, h2 => cases h1; cases h2; exact ⟨⟨by decide, by decide, by decide, ⟨3, by decide, Or.inl ⟨3, rfl, by decide +kernel, by decide +kernel, by decide +kernel⟩⟩⟩, wd_2_137⟩
  | n + 1, h1, h2 => simp at h1
theorem metWL_averageBranches {l : Launch} (hf : l.stackTraces = false) : pvMetW l yL_averageBranches (Cond.codeWith yL_averageBranches cL_averageBranches 4 (some .int) [(0, 9, 12, 21)] :: pvTb) mL_averageBranches C_L_averageBranches :=
  pvMetW_of (y := yL_averageBranches) 129 2 4 [0] plL coL foL (caL_averageBranches hf) rfl ⟨rfl, rfl⟩ chL_averageBranches (by decide +kernel) rfl (by decide) (by decide) (by decide) hdL_averageBranches owL_averageBranches
def bL_undo : Nat → List (Instr × Nat)
  | 0 => [(.aload_n 1, 1), (.iconst 0, 1), (.aload_n 0, 1)]
  | 3 => [(.invokevirtual 133, 3)]
  | 6 => [(.i2l, 1), (.lastore, 1), (.goto 6, 3)]
  | 14 => [(.iconst 0, 1), (.ireturn, 1)]
  | _ => []
theorem bL_undo_0 : bL_undo 0 = [(.aload_n 1, 1), (.iconst 0, 1), (.aload_n 0, 1)] := rfl
theorem bL_undo_3 : bL_undo 3 = [(.invokevirtual 133, 3)] := rfl
theorem bL_undo_6 : bL_undo 6 = [(.i2l, 1), (.lastore, 1), (.goto 6, 3)] := rfl
theorem bL_undo_14 : bL_undo 14 = [(.iconst 0, 1), (.ireturn, 1)] := rfl
def aL_undo : pvCa
  | 133 => some (1, false, 8, 0, C_X9_undo)
  | _ => none
def mL_undo : Room := { frames := 8, cells := 1, slots := 6, locals := 121 }
theorem pnL_undo : pvPn yL_undo = some 2 := by decide +kernel
theorem caL_undo {l : Launch} (hf : l.stackTraces = false) : pvCaOk l mL_undo "EventClockWorkbenchLaw" pvTb 60 aL_undo := by
  refine pvCaOk_i fun ix n b ci co C h => ?_
  unfold aL_undo at h
  split at h
  · cases h; exact pvCe_V (k := 0) (T := TX9) (N := 11) (metX9_undo hf) rfl wd_1_1 rfl wd_5_112 wd_5_113 wd_5_114 pnX9_undo rfl wd_5_115
  · cases h
set_option maxRecDepth 100000 in
theorem chL_undo : ∀ pc, pvChain cL_undo pc (bL_undo pc) := by
  intro pc
  unfold bL_undo
  split <;> first | exact True.intro | exact pvChain_of (by decide +kernel)
theorem shL_undo {as : List pvV} {z : pvM} {Q : pvO → pvM → Prop} (h : C_X9_undo as z Q) : as = [vR 0] := by
  unfold C_X9_undo at h
  split at h
  · obtain ⟨rfl, -⟩ := h
    exact rfl
  · exact h.elim
set_option maxRecDepth 100000 in
set_option maxHeartbeats 4000000 in
theorem owL_undo : ∀ as z Q, C_L_undo as z Q → pvOkS as → pvCs as ≤ 3 ∧ ∃ (a9 rest st9 : List pvV) (Q0 : pvO → pvM → Prop), pvPop 1 st9 [] = some (a9, rest) ∧ pvCs rest ≤ 8 ∧ pvRecv 60 8 a9 ∧ C_X9_undo a9 z Q0 ∧
      pvB 60 (0, fun _ => 0) fL aL_undo kL pvEx0 1 (fun pc ls' st z' g => pc = 3 ∧ ls' = pvEn as 3 ∧ st = st9 ∧ z' = z ∧ g = 0) (fun _ _ _ => False) (fun _ _ _ _ => False) (bL_undo 0) 0 (pvEn as 3) [] z 0 ∧
      (∀ v z', Q0 (.inl v) z' → (∀ x, v = some x → pvOk x) → pvB 60 (0, fun _ => 0) fL aL_undo kL pvEx0 1 (pvX 60 (0, fun _ => 0) fL aL_undo kL pvEx0 1 (pvRt (some .int) Q) (fun _ _ _ _ => False) bL_undo (fun _ => none) (fun _ _ _ _ => False) 9) (pvRt (some .int) Q) (fun _ _ _ _ => False) (bL_undo (3 + 3)) (3 + 3) (pvEn as 3) (pvPush v rest) z' 0) ∧
      (∀ k z', Q0 (.inr k) z' → k ∈ [2] ∧ Q (.inl (some (vI (hfF [2] k)))) z') := by
  intro as z Q h hS
  unfold C_L_undo at h
  split at h
  · obtain ⟨rfl, h⟩ := h
    have e := shL_undo h
    cases e
    refine ⟨Nat.le_of_ble_eq_true rfl, [vR 0], [vI 0, vR 58], [vR 0, vI 0, vR 58], wrI [2] Q, rfl, Nat.le_of_ble_eq_true rfl, ⟨rfl, by decide⟩, h, ?_, fun v z' hq hok => ?_, fun k z' hq => hq⟩
    · simp only [bL_undo_0, bL_undo_3, bL_undo_6, bL_undo_14, pvE_aload_n1, pvLA_s, pvLd, pvE_iconst, pvE_aload_n0, pvE_invokevirtual, pvC1_s, pvC2_s, pvAf_v, pvAf_x, pvPop, pvCs, pvCat, pvPush, pvSh_0, pvSh_58, pvSh_59, pvE_i2l, pvE_lastore, pvAL, pvE_goto, pvE_astore_n2, pvS1, List.length_cons, List.length_nil, pvClr_i, pvClr_r, pvClr_l, pvClr_d, pvClr_f, pvClr_n, pvE_ireturn, pvRecv_r, pvUp_nl, pvUp_same, pvUp_ap, pvSt_ap, pvX_c, pvX_ms, pvX_mn, pvE_nil, pvEn_i, pvEn_r, pvEn_l, pvEn_0, pvEn_s, pvRt, pvRv, pvTh, pvKc, pvGo, pvTgt, Int.toNat_natCast, false_and, and_false, true_and, and_true, if_true, if_false, reduceIte, reduceCtorEq, forall_const, false_or, or_false, true_or, or_true, ne_eq, not_true_eq_false, not_false_eq_true, implies_true, false_implies, Nat.reduceAdd, Nat.reduceSub, Nat.reduceMul, Nat.reduceEqDiff, Nat.reduceLT, Nat.reduceLeDiff, Int.reduceAdd, Int.reduceSub, Int.reduceMul, Int.reduceNeg, Int.reduceToNat, Int.reduceLE, Int.reduceLT, Int.reduceEq, Int.reduceNe, and_self, pvPush]
      (repeat' first | with_reducible apply And.intro | with_reducible intro _)
      all_goals first
        | omega
        | rfl
        | trivial
    rcases v with _ | (a | a | a | a | a)
    · exact hq.elim
    · simp only [wrI] at hq
      simp only [bL_undo_0, bL_undo_3, bL_undo_6, bL_undo_14, pvE_aload_n1, pvLA_s, pvLd, pvE_iconst, pvE_aload_n0, pvE_invokevirtual, pvC1_s, pvC2_s, pvAf_v, pvAf_x, pvPop, pvCs, pvCat, pvPush, pvSh_0, pvSh_58, pvSh_59, pvE_i2l, pvE_lastore, pvAL, pvE_goto, pvE_astore_n2, pvS1, List.length_cons, List.length_nil, pvClr_i, pvClr_r, pvClr_l, pvClr_d, pvClr_f, pvClr_n, pvE_ireturn, pvRecv_r, pvUp_nl, pvUp_same, pvUp_ap, pvSt_ap, pvX_c, pvX_ms, pvX_mn, pvE_nil, pvEn_i, pvEn_r, pvEn_l, pvEn_0, pvEn_s, pvRt, pvRv, pvTh, pvKc, pvGo, pvTgt, Int.toNat_natCast, false_and, and_false, true_and, and_true, if_true, if_false, reduceIte, reduceCtorEq, forall_const, false_or, or_false, true_or, or_true, ne_eq, not_true_eq_false, not_false_eq_true, implies_true, false_implies, Nat.reduceAdd, Nat.reduceSub, Nat.reduceMul, Nat.reduceEqDiff, Nat.reduceLT, Nat.reduceLeDiff, Int.reduceAdd, Int.reduceSub, Int.reduceMul, Int.reduceNeg, Int.reduceToNat, Int.reduceLE, Int.reduceLT, Int.reduceEq, Int.reduceNe, and_self, pvPush]
      (repeat' first | with_reducible apply And.intro | with_reducible intro _)
      all_goals first
        | omega
        | exact Or.inl rfl
        | exact hq (hok _ rfl)
    · exact hq.elim
    · exact hq.elim
    · exact hq.elim
    · exact hq.elim
  · exact h.elim
theorem hdL_undo : ∀ i (x : Nat × Nat × Nat × Nat) (k : Nat), ([(0, 8, 11, 15)] : List (Nat × Nat × Nat × Nat))[i]? = some x → ([2] : List Nat)[i]? = some k → (x.1 ≤ 3 ∧ 3 < x.2.1 ∧ x.2.2.2 ≠ 0 ∧ pvHd cL_undo 3 x.2.2.1 i) ∧ Cond.classLink "EventClockWorkbenchLaw" x.2.2.2 (pvXn k) ∈ pvTb := by
  intro i x k h1 h2
  match i, h1, h2 with
  | 0, h1, h2 => cases h1; cases h2; exact ⟨⟨by decide, by decide, by decide, ⟨2, by decide, Or.inl ⟨2, rfl, by decide +kernel, by decide +kernel, by decide +kernel⟩⟩⟩, wd_2_32⟩
  | n + 1, h1, h2 => simp at h1
theorem metWL_undo {l : Launch} (hf : l.stackTraces = false) : pvMetW l yL_undo (Cond.codeWith yL_undo cL_undo 3 (some .int) [(0, 8, 11, 15)] :: pvTb) mL_undo C_L_undo :=
  pvMetW_of (y := yL_undo) 133 1 3 [2] plL coL foL (caL_undo hf) rfl ⟨rfl, rfl⟩ chL_undo (by decide +kernel) rfl (by decide) (by decide) (by decide) hdL_undo owL_undo
def bL_restore : Nat → List (Instr × Nat)
  | 0 => [(.aload_n 0, 1)]
  | 1 => [(.invokevirtual 137, 3)]
  | 4 => [(.goto 6, 3)]
  | 10 => [(.iconst 0, 1), (.ireturn, 1)]
  | _ => []
theorem bL_restore_0 : bL_restore 0 = [(.aload_n 0, 1)] := rfl
theorem bL_restore_1 : bL_restore 1 = [(.invokevirtual 137, 3)] := rfl
theorem bL_restore_4 : bL_restore 4 = [(.goto 6, 3)] := rfl
theorem bL_restore_10 : bL_restore 10 = [(.iconst 0, 1), (.ireturn, 1)] := rfl
def aL_restore : pvCa
  | 137 => some (1, false, 8, 0, C_X9_restore)
  | _ => none
def mL_restore : Room := { frames := 8, cells := 1, slots := 6, locals := 124 }
theorem pnL_restore : pvPn yL_restore = some 1 := by decide +kernel
theorem caL_restore {l : Launch} (hf : l.stackTraces = false) : pvCaOk l mL_restore "EventClockWorkbenchLaw" pvTb 60 aL_restore := by
  refine pvCaOk_i fun ix n b ci co C h => ?_
  unfold aL_restore at h
  split at h
  · cases h; exact pvCe_V (k := 0) (T := TX9) (N := 11) (metX9_restore hf) rfl wd_1_1 rfl wd_5_127 wd_5_128 wd_5_129 pnX9_restore rfl wd_5_130
  · cases h
set_option maxRecDepth 100000 in
theorem chL_restore : ∀ pc, pvChain cL_restore pc (bL_restore pc) := by
  intro pc
  unfold bL_restore
  split <;> first | exact True.intro | exact pvChain_of (by decide +kernel)
theorem shL_restore {as : List pvV} {z : pvM} {Q : pvO → pvM → Prop} (h : C_X9_restore as z Q) : as = [vR 0] := by
  unfold C_X9_restore at h
  split at h
  · obtain ⟨rfl, -⟩ := h
    exact rfl
  · exact h.elim
set_option maxRecDepth 100000 in
set_option maxHeartbeats 4000000 in
theorem owL_restore : ∀ as z Q, C_L_restore as z Q → pvOkS as → pvCs as ≤ 2 ∧ ∃ (a9 rest st9 : List pvV) (Q0 : pvO → pvM → Prop), pvPop 1 st9 [] = some (a9, rest) ∧ pvCs rest ≤ 8 ∧ pvRecv 60 8 a9 ∧ C_X9_restore a9 z Q0 ∧
      pvB 60 (0, fun _ => 0) fL aL_restore kL pvEx0 1 (fun pc ls' st z' g => pc = 1 ∧ ls' = pvEn as 2 ∧ st = st9 ∧ z' = z ∧ g = 0) (fun _ _ _ => False) (fun _ _ _ _ => False) (bL_restore 0) 0 (pvEn as 2) [] z 0 ∧
      (∀ v z', Q0 (.inl v) z' → (∀ x, v = some x → pvOk x) → pvB 60 (0, fun _ => 0) fL aL_restore kL pvEx0 1 (pvX 60 (0, fun _ => 0) fL aL_restore kL pvEx0 1 (pvRt (some .int) Q) (fun _ _ _ _ => False) bL_restore (fun _ => none) (fun _ _ _ _ => False) 9) (pvRt (some .int) Q) (fun _ _ _ _ => False) (bL_restore (1 + 3)) (1 + 3) (pvEn as 2) (pvPush v rest) z' 0) ∧
      (∀ k z', Q0 (.inr k) z' → k ∈ [2] ∧ Q (.inl (some (vI (hfF [2] k)))) z') := by
  intro as z Q h hS
  unfold C_L_restore at h
  split at h
  · have e := shL_restore h
    cases e
    refine ⟨Nat.le_of_ble_eq_true rfl, [vR 0], [], [vR 0], wrN [2] Q, rfl, Nat.le_of_ble_eq_true rfl, ⟨rfl, by decide⟩, h, ?_, fun v z' hq hok => ?_, fun k z' hq => hq⟩
    · simp only [bL_restore_0, bL_restore_1, bL_restore_4, bL_restore_10, pvE_aload_n0, pvLA_s, pvLd, pvE_invokevirtual, pvC1_s, pvC2_s, pvAf_v, pvAf_x, pvPop, pvCs, pvCat, pvPush, pvSh_0, pvSh_58, pvSh_59, pvE_goto, pvE_astore_n1, pvS1, List.length_cons, List.length_nil, pvClr_i, pvClr_r, pvClr_l, pvClr_d, pvClr_f, pvClr_n, pvE_iconst, pvE_ireturn, pvRecv_r, pvUp_nl, pvUp_same, pvUp_ap, pvSt_ap, pvX_c, pvX_ms, pvX_mn, pvE_nil, pvEn_i, pvEn_r, pvEn_l, pvEn_0, pvEn_s, pvRt, pvRv, pvTh, pvKc, pvGo, pvTgt, Int.toNat_natCast, false_and, and_false, true_and, and_true, if_true, if_false, reduceIte, reduceCtorEq, forall_const, false_or, or_false, true_or, or_true, ne_eq, not_true_eq_false, not_false_eq_true, implies_true, false_implies, Nat.reduceAdd, Nat.reduceSub, Nat.reduceMul, Nat.reduceEqDiff, Nat.reduceLT, Nat.reduceLeDiff, Int.reduceAdd, Int.reduceSub, Int.reduceMul, Int.reduceNeg, Int.reduceToNat, Int.reduceLE, Int.reduceLT, Int.reduceEq, Int.reduceNe, and_self, pvPush]
      (repeat' first | with_reducible apply And.intro | with_reducible intro _)
      all_goals first
        | omega
        | rfl
        | trivial
    rcases v with _ | (a | a | a | a | a)
    · simp only [wrN] at hq
      simp only [bL_restore_0, bL_restore_1, bL_restore_4, bL_restore_10, pvE_aload_n0, pvLA_s, pvLd, pvE_invokevirtual, pvC1_s, pvC2_s, pvAf_v, pvAf_x, pvPop, pvCs, pvCat, pvPush, pvSh_0, pvSh_58, pvSh_59, pvE_goto, pvE_astore_n1, pvS1, List.length_cons, List.length_nil, pvClr_i, pvClr_r, pvClr_l, pvClr_d, pvClr_f, pvClr_n, pvE_iconst, pvE_ireturn, pvRecv_r, pvUp_nl, pvUp_same, pvUp_ap, pvSt_ap, pvX_c, pvX_ms, pvX_mn, pvE_nil, pvEn_i, pvEn_r, pvEn_l, pvEn_0, pvEn_s, pvRt, pvRv, pvTh, pvKc, pvGo, pvTgt, Int.toNat_natCast, false_and, and_false, true_and, and_true, if_true, if_false, reduceIte, reduceCtorEq, forall_const, false_or, or_false, true_or, or_true, ne_eq, not_true_eq_false, not_false_eq_true, implies_true, false_implies, Nat.reduceAdd, Nat.reduceSub, Nat.reduceMul, Nat.reduceEqDiff, Nat.reduceLT, Nat.reduceLeDiff, Int.reduceAdd, Int.reduceSub, Int.reduceMul, Int.reduceNeg, Int.reduceToNat, Int.reduceLE, Int.reduceLT, Int.reduceEq, Int.reduceNe, and_self, pvPush]
      (repeat' first | with_reducible apply And.intro | with_reducible intro _)
      all_goals first
        | omega
        | exact Or.inl rfl
        | exact hq
    · exact hq.elim
    · exact hq.elim
    · exact hq.elim
    · exact hq.elim
    · exact hq.elim
  · exact h.elim
theorem hdL_restore : ∀ i (x : Nat × Nat × Nat × Nat) (k : Nat), ([(0, 4, 7, 15)] : List (Nat × Nat × Nat × Nat))[i]? = some x → ([2] : List Nat)[i]? = some k → (x.1 ≤ 1 ∧ 1 < x.2.1 ∧ x.2.2.2 ≠ 0 ∧ pvHd cL_restore 2 x.2.2.1 i) ∧ Cond.classLink "EventClockWorkbenchLaw" x.2.2.2 (pvXn k) ∈ pvTb := by
  intro i x k h1 h2
  match i, h1, h2 with
  | 0, h1, h2 => cases h1; cases h2; exact ⟨⟨by decide, by decide, by decide, ⟨1, by decide, Or.inl ⟨1, rfl, by decide +kernel, by decide +kernel, by decide +kernel⟩⟩⟩, wd_2_32⟩
  | n + 1, h1, h2 => simp at h1
theorem metWL_restore {l : Launch} (hf : l.stackTraces = false) : pvMetW l yL_restore (Cond.codeWith yL_restore cL_restore 2 (some .int) [(0, 4, 7, 15)] :: pvTb) mL_restore C_L_restore :=
  pvMetW_of (y := yL_restore) 137 1 1 [2] plL coL foL (caL_restore hf) rfl ⟨rfl, rfl⟩ chL_restore (by decide +kernel) rfl (by decide) (by decide) (by decide) hdL_restore owL_restore
