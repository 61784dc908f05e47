theorem psS_e {z z' : pvM} {id : Nat} {A : Aut} (h : psS z id A) (e0 : z'.1 id = z.1 id) (e1 : z'.1 (id + 1) = z.1 (id + 1)) : psS z' id A := by
  unfold psS at *
  rw [e0, e1]
  exact h
theorem quF_e {z z' : pvM} {L : List Int} (h : quF z L) (e0 : z'.1 28 = z.1 28) (e1 : z'.1 29 = z.1 29) (e2 : z'.1 30 = z.1 30) : quF z' L := by
  unfold quF at *
  rw [e0, e1, e2]
  exact h
theorem py_k {z z' : pvM} {s : Int} (h : pyF z s z') {k : Nat} (hk : k < 5 ∨ 13 ≤ k) : z'.1 k = z.1 k := (py_de h).1.1 k (by simp; omega)
theorem ps_2 {z z1 z2 : pvM} {s : Int} (hs : 0 ≤ s ∧ s ≤ 1) (h1 : pyF z s z1) (h2 : pyF z1 (1 - s) z2) : psS z2 (pwF s) (autC (z.1 (rwC s))) ∧ psS z2 (pwF (1 - s)) (autC (z.1 (rwC (1 - s)))) := by
  have a := py_S h1 hs
  have b := py_S h2 (by omega)
  rw [de_r (py_de h1) (1 - s)] at b
  refine ⟨psS_e a (h2.1.1 _ ?_) (h2.1.1 _ ?_), b⟩
  · rcases (show s = 0 ∨ s = 1 by omega) with rfl | rfl <;> decide
  · rcases (show s = 0 ∨ s = 1 by omega) with rfl | rfl <;> decide
def C_X9_isEmpty : pvC
  | [.inr (.inr (.inl id)), .inl s], z, Q => id = 0 ∧ (pzF z ∧ psS z 13 emA ∧ ∃ Q0, quF z Q0) ∧ (¬ (0 ≤ s ∧ s ≤ 1) → Q (.inr 0) z) ∧
      (0 ≤ s ∧ s ≤ 1 → ∀ (z' : pvM) (Qs : List Int), frF [5, 6, 7, 8, 9, 10, 11, 12, 28, 29, 30, 32] [] z z' → pzF z' → quF z' Qs → ((∃ F, fdF (autC (z.1 (rwC s))) emA F) → Q (.inl (some (vI 0))) z') ∧ ((¬ ∃ F, fdF (autC (z.1 (rwC s))) emA F) → Q (.inl (some (vI 1))) z'))
  | _, _, _ => False
def bX9_isEmpty : Nat → List (Instr × Nat)
  | 0 => [(.iload_n 1, 1), (.iconst 2, 1), (.invokestatic 97, 3), (.aload_n 0, 1), (.getfield 56, 3), (.aload_n 0, 1), (.iload_n 1, 1), (.invokevirtual 217, 3), (.aload_n 0, 1), (.getfield 29, 3), (.invokevirtual 253, 3), (.ifCond .ne 7, 3), (.iconst 1, 1), (.goto 4, 3)]
  | 28 => [(.iconst 0, 1)]
  | 29 => [(.ireturn, 1)]
  | _ => []
def uX9_isEmpty : Nat → Option (List Bool)
  | _ => none
def aX9_isEmpty : pvCa
  | 97 => some (2, true, 0, 0, C_X9_requireIndex)
  | 217 => some (2, false, 8, 0, C_X9_powerset)
  | 253 => some (3, false, 5, 0, C_X5_findsAny)
  | _ => none
theorem bX9_isEmpty_0 : bX9_isEmpty 0 = [(.iload_n 1, 1), (.iconst 2, 1), (.invokestatic 97, 3), (.aload_n 0, 1), (.getfield 56, 3), (.aload_n 0, 1), (.iload_n 1, 1), (.invokevirtual 217, 3), (.aload_n 0, 1), (.getfield 29, 3), (.invokevirtual 253, 3), (.ifCond .ne 7, 3), (.iconst 1, 1), (.goto 4, 3)] := rfl
theorem uX9_isEmpty_0 : uX9_isEmpty 0 = none := rfl
theorem bX9_isEmpty_28 : bX9_isEmpty 28 = [(.iconst 0, 1)] := rfl
theorem uX9_isEmpty_28 : uX9_isEmpty 28 = none := rfl
theorem bX9_isEmpty_29 : bX9_isEmpty 29 = [(.ireturn, 1)] := rfl
theorem uX9_isEmpty_29 : uX9_isEmpty 29 = none := rfl
theorem aX9_isEmpty_97 : aX9_isEmpty 97 = some (2, true, 0, 0, C_X9_requireIndex) := rfl
theorem aX9_isEmpty_217 : aX9_isEmpty 217 = some (2, false, 8, 0, C_X9_powerset) := rfl
theorem aX9_isEmpty_253 : aX9_isEmpty 253 = some (3, false, 5, 0, C_X5_findsAny) := rfl
set_option maxRecDepth 100000 in
set_option maxHeartbeats 4000000 in
theorem okX9_isEmpty : pvOkM fX9 aX9_isEmpty kX9 eX9 (some .boolean) bX9_isEmpty uX9_isEmpty 2 C_X9_isEmpty := by
  intro Q SW hc as z h hS hz
  unfold C_X9_isEmpty at h
  split at h
  · rename_i id s
    obtain ⟨rfl, ⟨hp, h13, Q0, hq⟩, h1, h2⟩ := h
    refine ⟨Nat.le_of_ble_eq_true rfl, hc 20 _ _ _ fun _ _ => ?_⟩
    clear hc hS hz
    simp only [pvSt1]
    have hsh := pw_sh s
    have hlt := pw_o s
    simp only [C_X9_powerset, C_X9_requireIndex, C_X5_findsAny, hsh, pvE_iload_n1, pvLI_s, pvLd, pvE_iconst, pvE_invokestatic (h0 := eX9_97), pvC1_s, pvC2_s, pvAf_v, pvAf_x, pvPop, pvCs, pvCat, pvPush, aX9_isEmpty_97, pvE_aload_n0, pvLA_s, pvE_getfield, pvGf_0, pvGf_1, pvGf_2, fX9_56, pvSh_0, pvSh_1, pvSh_2, pvSh_3, pvSh_4, pvSh_5, pvSh_6, pvSh_7, pvSh_8, pvSh_9, pvSh_10, pvSh_11, pvSh_12, pvSh_13, pvSh_14, pvSh_15, pvSh_16, pvSh_17, pvSh_18, pvSh_19, pvSh_20, pvSh_21, pvSh_22, pvSh_23, pvSh_24, pvSh_25, pvSh_26, pvSh_27, pvSh_28, pvSh_29, pvSh_30, pvSh_31, pvSh_32, pvSh_33, pvSh_34, pvSh_35, pvSh_36, pvSh_37, pvSh_38, pvRf_0_0, pvRf_0_1, pvRf_0_2, pvRf_0_3, pvRf_0_4, pvRf_0_5, pvRf_0_6, pvRf_0_7, pvRf_0_8, pvRf_0_9, pvRf_0_10, pvRf_1_0, pvRf_3_0, pvRf_5_0, pvRf_5_1, pvRf_5_2, pvRf_9_0, pvRf_9_1, pvRf_9_2, pvRf_13_0, pvRf_13_1, pvRf_13_2, pvRf_17_0, pvRf_17_2, pvRf_20_0, pvRf_20_1, pvRf_20_2, pvRf_24_0, pvRf_24_1, pvRf_24_2, pvRf_28_0, pvRf_28_1, pvRf_28_2, pvRf_28_3, pvRf_33_0, pvRf_33_1, pvRf_36_0, pvRf_36_1, pvE_invokevirtual, aX9_isEmpty_217, fX9_29, aX9_isEmpty_253, pvE_if_ne, pvE_goto, pvE_ireturn, bX9_isEmpty_0, uX9_isEmpty_0, bX9_isEmpty_28, uX9_isEmpty_28, bX9_isEmpty_29, uX9_isEmpty_29, pvRtG, pvRecv_r, pvUp_nl, pvUp_same, pvUp_ap, pvSt_ap, pvX_c, pvX_ms, pvX_mn, pvE_nil, pvEn_i, pvEn_r, pvEn_l, pvEn_0, pvEn_s, pvRt, pvRv, pvTh, pvKc, pvGo, pvTgt, Int.toNat_natCast, false_and, and_false, true_and, and_true, if_true, if_false, reduceIte, reduceCtorEq, forall_const, false_or, or_false, true_or, or_true, ne_eq, not_true_eq_false, not_false_eq_true, implies_true, false_implies, Nat.reduceAdd, Nat.reduceSub, Nat.reduceMul, Nat.reduceEqDiff, Nat.reduceLT, Nat.reduceLeDiff, Int.reduceAdd, Int.reduceSub, Int.reduceMul, Int.reduceNeg, Int.reduceToNat, Int.reduceLE, Int.reduceLT, Int.reduceEq, Int.reduceNe, and_self]
    by_cases hs : 0 ≤ s ∧ s ≤ 1
    · have h3 := h2 hs
      (repeat' first | with_reducible apply And.intro | with_reducible intro _)
      all_goals first
        | omega
        | assumption
        | skip
      all_goals
        rename pyF _ _ _ => y1
        refine ⟨_, _, Q0, ⟨quF_e hq (py_k y1 (by decide)) (py_k y1 (by decide)) (py_k y1 (by decide)), py_S y1 hs, psS_e h13 (py_k y1 (by decide)) (py_k y1 (by decide))⟩, fun z' Qs f2 q2 => ?_⟩
        have h4 := h3 z' Qs (frF_t (frF_t frF_0 (py_de y1).1 (by simp) (by simp)) f2 (by simp) (by simp)) (pz_m (py_de y1).2 f2 (by simp)) q2
        refine ⟨fun q => ?_, fun q => ?_⟩
        · have h5 := h4.1 q
          and_intros <;> first | omega | assumption | (intro _; first | contradiction | assumption) | skip
        · have h5 := h4.2 q
          and_intros <;> first | omega | assumption | (intro _; first | contradiction | assumption) | skip
    · have h4 := h1 hs
      (repeat' first | with_reducible apply And.intro | with_reducible intro _) <;> first | omega | assumption
  · exact h.elim
def C_X9_isIncluded : pvC
  | [.inr (.inr (.inl id)), .inl s], z, Q => id = 0 ∧ (pzF z ∧ ∃ Q0, quF z Q0) ∧ (¬ (0 ≤ s ∧ s ≤ 1) → Q (.inr 0) z) ∧
      (0 ≤ s ∧ s ≤ 1 → ∀ (z' : pvM) (Qs : List Int), frF [5, 6, 7, 8, 9, 10, 11, 12, 28, 29, 30, 32] [] z z' → pzF z' → quF z' Qs → ((∃ F, fdF (autC (z.1 (rwC s))) (autC (z.1 (rwC (1 - s)))) F) → Q (.inl (some (vI 0))) z') ∧ ((¬ ∃ F, fdF (autC (z.1 (rwC s))) (autC (z.1 (rwC (1 - s)))) F) → Q (.inl (some (vI 1))) z'))
  | _, _, _ => False
def bX9_isIncluded : Nat → List (Instr × Nat)
  | 0 => [(.iload_n 1, 1), (.iconst 2, 1), (.invokestatic 97, 3), (.aload_n 0, 1), (.getfield 56, 3), (.aload_n 0, 1), (.iload_n 1, 1), (.invokevirtual 217, 3), (.aload_n 0, 1), (.iconst 1, 1), (.iload_n 1, 1), (.isub, 1), (.invokevirtual 217, 3), (.invokevirtual 253, 3), (.ifCond .ne 7, 3), (.iconst 1, 1), (.goto 4, 3)]
  | 31 => [(.iconst 0, 1)]
  | 32 => [(.ireturn, 1)]
  | _ => []
def uX9_isIncluded : Nat → Option (List Bool)
  | _ => none
def aX9_isIncluded : pvCa
  | 97 => some (2, true, 0, 0, C_X9_requireIndex)
  | 217 => some (2, false, 8, 0, C_X9_powerset)
  | 253 => some (3, false, 5, 0, C_X5_findsAny)
  | _ => none
theorem bX9_isIncluded_0 : bX9_isIncluded 0 = [(.iload_n 1, 1), (.iconst 2, 1), (.invokestatic 97, 3), (.aload_n 0, 1), (.getfield 56, 3), (.aload_n 0, 1), (.iload_n 1, 1), (.invokevirtual 217, 3), (.aload_n 0, 1), (.iconst 1, 1), (.iload_n 1, 1), (.isub, 1), (.invokevirtual 217, 3), (.invokevirtual 253, 3), (.ifCond .ne 7, 3), (.iconst 1, 1), (.goto 4, 3)] := rfl
theorem uX9_isIncluded_0 : uX9_isIncluded 0 = none := rfl
theorem bX9_isIncluded_31 : bX9_isIncluded 31 = [(.iconst 0, 1)] := rfl
theorem uX9_isIncluded_31 : uX9_isIncluded 31 = none := rfl
theorem bX9_isIncluded_32 : bX9_isIncluded 32 = [(.ireturn, 1)] := rfl
theorem uX9_isIncluded_32 : uX9_isIncluded 32 = none := rfl
theorem aX9_isIncluded_97 : aX9_isIncluded 97 = some (2, true, 0, 0, C_X9_requireIndex) := rfl
theorem aX9_isIncluded_217 : aX9_isIncluded 217 = some (2, false, 8, 0, C_X9_powerset) := rfl
theorem aX9_isIncluded_253 : aX9_isIncluded 253 = some (3, false, 5, 0, C_X5_findsAny) := rfl
set_option maxRecDepth 100000 in
set_option maxHeartbeats 4000000 in
theorem okX9_isIncluded : pvOkM fX9 aX9_isIncluded kX9 eX9 (some .boolean) bX9_isIncluded uX9_isIncluded 2 C_X9_isIncluded := by
  intro Q SW hc as z h hS hz
  unfold C_X9_isIncluded at h
  split at h
  · rename_i id s
    obtain ⟨rfl, ⟨hp, Q0, hq⟩, h1, h2⟩ := h
    refine ⟨Nat.le_of_ble_eq_true rfl, hc 20 _ _ _ fun _ _ => ?_⟩
    clear hc hS hz
    simp only [pvSt1]
    have hsh := pw_sh s
    have hlt := pw_o s
    have hsh2 := pw_sh (1 - s)
    have hlt2 := pw_o (1 - s)
    simp only [C_X9_powerset, C_X9_requireIndex, C_X5_findsAny, hsh, hsh2, pvE_iload_n1, pvLI_s, pvLd, pvE_iconst, pvE_invokestatic (h0 := eX9_97), pvC1_s, pvC2_s, pvAf_v, pvAf_x, pvPop, pvCs, pvCat, pvPush, aX9_isIncluded_97, pvE_aload_n0, pvLA_s, pvE_getfield, pvGf_0, pvGf_1, pvGf_2, fX9_56, pvSh_0, pvSh_1, pvSh_2, pvSh_3, pvSh_4, pvSh_5, pvSh_6, pvSh_7, pvSh_8, pvSh_9, pvSh_10, pvSh_11, pvSh_12, pvSh_13, pvSh_14, pvSh_15, pvSh_16, pvSh_17, pvSh_18, pvSh_19, pvSh_20, pvSh_21, pvSh_22, pvSh_23, pvSh_24, pvSh_25, pvSh_26, pvSh_27, pvSh_28, pvSh_29, pvSh_30, pvSh_31, pvSh_32, pvSh_33, pvSh_34, pvSh_35, pvSh_36, pvSh_37, pvSh_38, pvRf_0_0, pvRf_0_1, pvRf_0_2, pvRf_0_3, pvRf_0_4, pvRf_0_5, pvRf_0_6, pvRf_0_7, pvRf_0_8, pvRf_0_9, pvRf_0_10, pvRf_1_0, pvRf_3_0, pvRf_5_0, pvRf_5_1, pvRf_5_2, pvRf_9_0, pvRf_9_1, pvRf_9_2, pvRf_13_0, pvRf_13_1, pvRf_13_2, pvRf_17_0, pvRf_17_2, pvRf_20_0, pvRf_20_1, pvRf_20_2, pvRf_24_0, pvRf_24_1, pvRf_24_2, pvRf_28_0, pvRf_28_1, pvRf_28_2, pvRf_28_3, pvRf_33_0, pvRf_33_1, pvRf_36_0, pvRf_36_1, pvE_invokevirtual, aX9_isIncluded_217, pvE_isub, aX9_isIncluded_253, pvE_if_ne, pvE_goto, pvE_ireturn, bX9_isIncluded_0, uX9_isIncluded_0, bX9_isIncluded_31, uX9_isIncluded_31, bX9_isIncluded_32, uX9_isIncluded_32, pvRtG, pvRecv_r, pvUp_nl, pvUp_same, pvUp_ap, pvSt_ap, pvX_c, pvX_ms, pvX_mn, pvE_nil, pvEn_i, pvEn_r, pvEn_l, pvEn_0, pvEn_s, pvRt, pvRv, pvTh, pvKc, pvGo, pvTgt, Int.toNat_natCast, false_and, and_false, true_and, and_true, if_true, if_false, reduceIte, reduceCtorEq, forall_const, false_or, or_false, true_or, or_true, ne_eq, not_true_eq_false, not_false_eq_true, implies_true, false_implies, Nat.reduceAdd, Nat.reduceSub, Nat.reduceMul, Nat.reduceEqDiff, Nat.reduceLT, Nat.reduceLeDiff, Int.reduceAdd, Int.reduceSub, Int.reduceMul, Int.reduceNeg, Int.reduceToNat, Int.reduceLE, Int.reduceLT, Int.reduceEq, Int.reduceNe, and_self]
    by_cases hs : 0 ≤ s ∧ s ≤ 1
    · have h3 := h2 hs
      (repeat' first | with_reducible apply And.intro | with_reducible intro _)
      all_goals first
        | omega
        | assumption
        | (rename pyF _ _ _ => y1; exact y1.2.1)
        | skip
      all_goals
        rename pyF _ _ _ => y2
        rename pyF z _ _ => y1
        have k1 : ∀ k, (k < 5 ∨ 13 ≤ k) → _ = z.1 k := fun k hk => (py_k y2 hk).trans (py_k y1 hk)
        refine ⟨_, _, Q0, ⟨quF_e hq (k1 28 (by decide)) (k1 29 (by decide)) (k1 30 (by decide)), (ps_2 hs y1 y2).1, (ps_2 hs y1 y2).2⟩, fun z' Qs f2 q2 => ?_⟩
        have h4 := h3 z' Qs (frF_t (frF_t frF_0 (de_t (py_de y1) (py_de y2)).1 (by simp) (by simp)) f2 (by simp) (by simp)) (pz_m (py_de y2).2 f2 (by simp)) q2
        refine ⟨fun q => ?_, fun q => ?_⟩
        · have h5 := h4.1 q
          and_intros <;> first | omega | assumption | (intro _; first | contradiction | assumption) | skip
        · have h5 := h4.2 q
          and_intros <;> first | omega | assumption | (intro _; first | contradiction | assumption) | skip
    · have h4 := h1 hs
      (repeat' first | with_reducible apply And.intro | with_reducible intro _) <;> first | omega | assumption
  · exact h.elim
def C_X9_takeWitness : pvC
  | [.inr (.inr (.inl id)), .inl s], z, Q => id = 0 ∧ (pzF z ∧ psS z 13 emA ∧ ∃ Q0, quF z Q0) ∧ (¬ (0 ≤ s ∧ s ≤ 1) → Q (.inr 0) z) ∧
      (0 ≤ s ∧ s ≤ 1 → ∀ (z' : pvM) (Qs : List Int), pzF z' → quF z' Qs →
        ((¬ ∃ F, F ≤ 10 ∧ fdF (autC (z.1 (rwC s))) emA F) → frF [5, 6, 7, 8, 9, 10, 11, 12, 28, 29, 30, 32] [] z z' → Q (.inr 3) z') ∧
        (∀ F, F ≤ 10 → fdF (autC (z.1 (rwC s))) emA F → frF [5, 6, 7, 8, 9, 10, 11, 12, 20, 21, 22, 23, 28, 29, 30, 31, 32] [] z z' → WvF z'.1 → z'.1 20 4 = F → (∀ j : Nat, j < F → z'.1 21 j = ((nkF (autC (z.1 (rwC s))) emA F j (wcF (autC (z.1 (rwC s))) emA F j) % 5 : Nat) : Int) ∧ z'.1 22 j = ((nkF (autC (z.1 (rwC s))) emA F j (wcF (autC (z.1 (rwC s))) emA F j) / 5 : Nat) : Int)) → Q (.inl (some (vI (F : Int)))) z'))
  | _, _, _ => False
def bX9_takeWitness : Nat → List (Instr × Nat)
  | 0 => [(.iload_n 1, 1), (.iconst 2, 1), (.invokestatic 97, 3), (.aload_n 0, 1), (.getfield 56, 3), (.aload_n 0, 1), (.iload_n 1, 1), (.invokevirtual 217, 3), (.aload_n 0, 1), (.getfield 29, 3), (.aload_n 0, 1), (.getfield 42, 3), (.invokevirtual 257, 3), (.invokestatic 204, 3), (.aload_n 0, 1), (.getfield 42, 3), (.getfield 172, 3), (.ireturn, 1)]
  | _ => []
def uX9_takeWitness : Nat → Option (List Bool)
  | _ => none
def aX9_takeWitness : pvCa
  | 97 => some (2, true, 0, 0, C_X9_requireIndex)
  | 204 => some (1, true, 0, 0, C_X9_requireElement)
  | 217 => some (2, false, 8, 0, C_X9_powerset)
  | 257 => some (4, false, 5, 0, C_X5_takeFirst)
  | _ => none
theorem bX9_takeWitness_0 : bX9_takeWitness 0 = [(.iload_n 1, 1), (.iconst 2, 1), (.invokestatic 97, 3), (.aload_n 0, 1), (.getfield 56, 3), (.aload_n 0, 1), (.iload_n 1, 1), (.invokevirtual 217, 3), (.aload_n 0, 1), (.getfield 29, 3), (.aload_n 0, 1), (.getfield 42, 3), (.invokevirtual 257, 3), (.invokestatic 204, 3), (.aload_n 0, 1), (.getfield 42, 3), (.getfield 172, 3), (.ireturn, 1)] := rfl
theorem uX9_takeWitness_0 : uX9_takeWitness 0 = none := rfl
theorem aX9_takeWitness_97 : aX9_takeWitness 97 = some (2, true, 0, 0, C_X9_requireIndex) := rfl
theorem aX9_takeWitness_204 : aX9_takeWitness 204 = some (1, true, 0, 0, C_X9_requireElement) := rfl
theorem aX9_takeWitness_217 : aX9_takeWitness 217 = some (2, false, 8, 0, C_X9_powerset) := rfl
theorem aX9_takeWitness_257 : aX9_takeWitness 257 = some (4, false, 5, 0, C_X5_takeFirst) := rfl
set_option maxRecDepth 100000 in
set_option maxHeartbeats 4000000 in
theorem okX9_takeWitness : pvOkM fX9 aX9_takeWitness kX9 eX9 (some .int) bX9_takeWitness uX9_takeWitness 2 C_X9_takeWitness := by
  intro Q SW hc as z h hS hz
  unfold C_X9_takeWitness at h
  split at h
  · rename_i id s
    obtain ⟨rfl, ⟨hp, h13, Q0, hq⟩, h1, h2⟩ := h
    refine ⟨Nat.le_of_ble_eq_true rfl, hc 20 _ _ _ fun _ _ => ?_⟩
    clear hc hS hz
    simp only [pvSt1]
    have hsh := pw_sh s
    have hlt := pw_o s
    simp only [C_X9_powerset, C_X9_requireIndex, C_X9_requireElement, C_X5_takeFirst, hsh, pvE_iload_n1, pvLI_s, pvLd, pvE_iconst, pvE_invokestatic (h0 := eX9_97), pvC1_s, pvC2_s, pvAf_v, pvAf_x, pvPop, pvCs, pvCat, pvPush, aX9_takeWitness_97, pvE_aload_n0, pvLA_s, pvE_getfield, pvGf_0, pvGf_1, pvGf_2, fX9_56, pvSh_0, pvSh_1, pvSh_2, pvSh_3, pvSh_4, pvSh_5, pvSh_6, pvSh_7, pvSh_8, pvSh_9, pvSh_10, pvSh_11, pvSh_12, pvSh_13, pvSh_14, pvSh_15, pvSh_16, pvSh_17, pvSh_18, pvSh_19, pvSh_20, pvSh_21, pvSh_22, pvSh_23, pvSh_24, pvSh_25, pvSh_26, pvSh_27, pvSh_28, pvSh_29, pvSh_30, pvSh_31, pvSh_32, pvSh_33, pvSh_34, pvSh_35, pvSh_36, pvSh_37, pvSh_38, pvRf_0_0, pvRf_0_1, pvRf_0_2, pvRf_0_3, pvRf_0_4, pvRf_0_5, pvRf_0_6, pvRf_0_7, pvRf_0_8, pvRf_0_9, pvRf_0_10, pvRf_1_0, pvRf_3_0, pvRf_5_0, pvRf_5_1, pvRf_5_2, pvRf_9_0, pvRf_9_1, pvRf_9_2, pvRf_13_0, pvRf_13_1, pvRf_13_2, pvRf_17_0, pvRf_17_2, pvRf_20_0, pvRf_20_1, pvRf_20_2, pvRf_24_0, pvRf_24_1, pvRf_24_2, pvRf_28_0, pvRf_28_1, pvRf_28_2, pvRf_28_3, pvRf_33_0, pvRf_33_1, pvRf_36_0, pvRf_36_1, pvE_invokevirtual, aX9_takeWitness_217, fX9_29, fX9_42, aX9_takeWitness_257, pvE_invokestatic (h0 := eX9_204), aX9_takeWitness_204, fX9_172, pvE_ireturn, bX9_takeWitness_0, uX9_takeWitness_0, pvRtG, pvRecv_r, pvUp_nl, pvUp_same, pvUp_ap, pvSt_ap, pvX_c, pvX_ms, pvX_mn, pvE_nil, pvEn_i, pvEn_r, pvEn_l, pvEn_0, pvEn_s, pvRt, pvRv, pvTh, pvKc, pvGo, pvTgt, Int.toNat_natCast, false_and, and_false, true_and, and_true, if_true, if_false, reduceIte, reduceCtorEq, forall_const, false_or, or_false, true_or, or_true, ne_eq, not_true_eq_false, not_false_eq_true, implies_true, false_implies, Nat.reduceAdd, Nat.reduceSub, Nat.reduceMul, Nat.reduceEqDiff, Nat.reduceLT, Nat.reduceLeDiff, Int.reduceAdd, Int.reduceSub, Int.reduceMul, Int.reduceNeg, Int.reduceToNat, Int.reduceLE, Int.reduceLT, Int.reduceEq, Int.reduceNe, and_self]
    by_cases hs : 0 ≤ s ∧ s ≤ 1
    · have h3 := h2 hs
      (repeat' first | with_reducible apply And.intro | with_reducible intro _)
      all_goals first
        | omega
        | assumption
        | skip
      all_goals
        rename pyF _ _ _ => y1
        refine ⟨_, _, Q0, ⟨quF_e hq (py_k y1 (by decide)) (py_k y1 (by decide)) (py_k y1 (by decide)), py_S y1 hs, psS_e h13 (py_k y1 (by decide)) (py_k y1 (by decide))⟩, fun z' Qs q2 => ⟨fun hn f2 => ?_, fun F hF hf f2 w2 e2 j2 => ?_⟩⟩
        · have h4 := (h3 z' Qs (pz_m (py_de y1).2 f2 (by simp)) q2).1 hn (frF_t (frF_t frF_0 (py_de y1).1 (by simp) (by simp)) f2 (by simp) (by simp))
          and_intros <;> first | omega | assumption | (intro _; first | contradiction | assumption) | skip
        · have h4 := (h3 z' Qs (pz_m (py_de y1).2 f2 (by simp)) q2).2 F hF hf (frF_t (frF_t frF_0 (py_de y1).1 (by simp) (by simp)) f2 (by simp) (by simp)) w2 e2 j2
          rw [← e2] at h4
          and_intros <;> first | omega | assumption | (intro _; first | contradiction | assumption) | skip
    · have h4 := h1 hs
      (repeat' first | with_reducible apply And.intro | with_reducible intro _) <;> first | omega | assumption
  · exact h.elim
def C_X9_takeDifference : pvC
  | [.inr (.inr (.inl id)), .inl s], z, Q => id = 0 ∧ (pzF z ∧ ∃ Q0, quF z Q0) ∧ (¬ (0 ≤ s ∧ s ≤ 1) → Q (.inr 0) z) ∧
      (0 ≤ s ∧ s ≤ 1 → ∀ (z' : pvM) (Qs : List Int) (A B : Aut), A = autC (z.1 (rwC s)) → B = autC (z.1 (rwC (1 - s))) → pzF z' → quF z' Qs →
        ((¬ ∃ F, F ≤ 10 ∧ fdF A B F) → frF [5, 6, 7, 8, 9, 10, 11, 12, 28, 29, 30, 32] [] z z' → Q (.inr 3) z') ∧
        (∀ F, F ≤ 10 → fdF A B F → frF [5, 6, 7, 8, 9, 10, 11, 12, 20, 21, 22, 23, 28, 29, 30, 31, 32] [] z z' → WvF z'.1 → z'.1 20 4 = F → (∀ j : Nat, j < F → z'.1 21 j = ((nkF A B F j (wcF A B F j) % 5 : Nat) : Int) ∧ z'.1 22 j = ((nkF A B F j (wcF A B F j) / 5 : Nat) : Int)) → Q (.inl (some (vI (F : Int)))) z'))
  | _, _, _ => False
def bX9_takeDifference : Nat → List (Instr × Nat)
  | 0 => [(.iload_n 1, 1), (.iconst 2, 1), (.invokestatic 97, 3), (.aload_n 0, 1), (.getfield 56, 3), (.aload_n 0, 1), (.iload_n 1, 1), (.invokevirtual 217, 3), (.aload_n 0, 1), (.iconst 1, 1), (.iload_n 1, 1), (.isub, 1), (.invokevirtual 217, 3), (.aload_n 0, 1), (.getfield 42, 3), (.invokevirtual 257, 3), (.invokestatic 204, 3), (.aload_n 0, 1), (.getfield 42, 3), (.getfield 172, 3), (.ireturn, 1)]
  | _ => []
def uX9_takeDifference : Nat → Option (List Bool)
  | _ => none
def aX9_takeDifference : pvCa
  | 97 => some (2, true, 0, 0, C_X9_requireIndex)
  | 204 => some (1, true, 0, 0, C_X9_requireElement)
  | 217 => some (2, false, 8, 0, C_X9_powerset)
  | 257 => some (4, false, 5, 0, C_X5_takeFirst)
  | _ => none
theorem bX9_takeDifference_0 : bX9_takeDifference 0 = [(.iload_n 1, 1), (.iconst 2, 1), (.invokestatic 97, 3), (.aload_n 0, 1), (.getfield 56, 3), (.aload_n 0, 1), (.iload_n 1, 1), (.invokevirtual 217, 3), (.aload_n 0, 1), (.iconst 1, 1), (.iload_n 1, 1), (.isub, 1), (.invokevirtual 217, 3), (.aload_n 0, 1), (.getfield 42, 3), (.invokevirtual 257, 3), (.invokestatic 204, 3), (.aload_n 0, 1), (.getfield 42, 3), (.getfield 172, 3), (.ireturn, 1)] := rfl
theorem uX9_takeDifference_0 : uX9_takeDifference 0 = none := rfl
theorem aX9_takeDifference_97 : aX9_takeDifference 97 = some (2, true, 0, 0, C_X9_requireIndex) := rfl
theorem aX9_takeDifference_204 : aX9_takeDifference 204 = some (1, true, 0, 0, C_X9_requireElement) := rfl
theorem aX9_takeDifference_217 : aX9_takeDifference 217 = some (2, false, 8, 0, C_X9_powerset) := rfl
theorem aX9_takeDifference_257 : aX9_takeDifference 257 = some (4, false, 5, 0, C_X5_takeFirst) := rfl
set_option maxRecDepth 100000 in
set_option maxHeartbeats 4000000 in
theorem okX9_takeDifference : pvOkM fX9 aX9_takeDifference kX9 eX9 (some .int) bX9_takeDifference uX9_takeDifference 2 C_X9_takeDifference := by
  intro Q SW hc as z h hS hz
  unfold C_X9_takeDifference at h
  split at h
  · rename_i id s
    obtain ⟨rfl, ⟨hp, Q0, hq⟩, h1, h2⟩ := h
    refine ⟨Nat.le_of_ble_eq_true rfl, hc 20 _ _ _ fun _ _ => ?_⟩
    clear hc hS hz
    simp only [pvSt1]
    have hsh := pw_sh s
    have hlt := pw_o s
    have hsh2 := pw_sh (1 - s)
    have hlt2 := pw_o (1 - s)
    simp only [C_X9_powerset, C_X9_requireIndex, C_X9_requireElement, C_X5_takeFirst, hsh, hsh2, pvE_iload_n1, pvLI_s, pvLd, pvE_iconst, pvE_invokestatic (h0 := eX9_97), pvC1_s, pvC2_s, pvAf_v, pvAf_x, pvPop, pvCs, pvCat, pvPush, aX9_takeDifference_97, pvE_aload_n0, pvLA_s, pvE_getfield, pvGf_0, pvGf_1, pvGf_2, fX9_56, pvSh_0, pvSh_1, pvSh_2, pvSh_3, pvSh_4, pvSh_5, pvSh_6, pvSh_7, pvSh_8, pvSh_9, pvSh_10, pvSh_11, pvSh_12, pvSh_13, pvSh_14, pvSh_15, pvSh_16, pvSh_17, pvSh_18, pvSh_19, pvSh_20, pvSh_21, pvSh_22, pvSh_23, pvSh_24, pvSh_25, pvSh_26, pvSh_27, pvSh_28, pvSh_29, pvSh_30, pvSh_31, pvSh_32, pvSh_33, pvSh_34, pvSh_35, pvSh_36, pvSh_37, pvSh_38, pvRf_0_0, pvRf_0_1, pvRf_0_2, pvRf_0_3, pvRf_0_4, pvRf_0_5, pvRf_0_6, pvRf_0_7, pvRf_0_8, pvRf_0_9, pvRf_0_10, pvRf_1_0, pvRf_3_0, pvRf_5_0, pvRf_5_1, pvRf_5_2, pvRf_9_0, pvRf_9_1, pvRf_9_2, pvRf_13_0, pvRf_13_1, pvRf_13_2, pvRf_17_0, pvRf_17_2, pvRf_20_0, pvRf_20_1, pvRf_20_2, pvRf_24_0, pvRf_24_1, pvRf_24_2, pvRf_28_0, pvRf_28_1, pvRf_28_2, pvRf_28_3, pvRf_33_0, pvRf_33_1, pvRf_36_0, pvRf_36_1, pvE_invokevirtual, aX9_takeDifference_217, pvE_isub, fX9_42, aX9_takeDifference_257, pvE_invokestatic (h0 := eX9_204), aX9_takeDifference_204, fX9_172, pvE_ireturn, bX9_takeDifference_0, uX9_takeDifference_0, pvRtG, pvRecv_r, pvUp_nl, pvUp_same, pvUp_ap, pvSt_ap, pvX_c, pvX_ms, pvX_mn, pvE_nil, pvEn_i, pvEn_r, pvEn_l, pvEn_0, pvEn_s, pvRt, pvRv, pvTh, pvKc, pvGo, pvTgt, Int.toNat_natCast, false_and, and_false, true_and, and_true, if_true, if_false, reduceIte, reduceCtorEq, forall_const, false_or, or_false, true_or, or_true, ne_eq, not_true_eq_false, not_false_eq_true, implies_true, false_implies, Nat.reduceAdd, Nat.reduceSub, Nat.reduceMul, Nat.reduceEqDiff, Nat.reduceLT, Nat.reduceLeDiff, Int.reduceAdd, Int.reduceSub, Int.reduceMul, Int.reduceNeg, Int.reduceToNat, Int.reduceLE, Int.reduceLT, Int.reduceEq, Int.reduceNe, and_self]
    by_cases hs : 0 ≤ s ∧ s ≤ 1
    · have h3 := h2 hs
      (repeat' first | with_reducible apply And.intro | with_reducible intro _)
      all_goals first
        | omega
        | assumption
        | (rename pyF _ _ _ => y1; exact y1.2.1)
        | skip
      all_goals
        rename pyF _ _ _ => y2
        rename pyF z _ _ => y1
        have k1 : ∀ k, (k < 5 ∨ 13 ≤ k) → _ = z.1 k := fun k hk => (py_k y2 hk).trans (py_k y1 hk)
        refine ⟨_, _, Q0, ⟨quF_e hq (k1 28 (by decide)) (k1 29 (by decide)) (k1 30 (by decide)), (ps_2 hs y1 y2).1, (ps_2 hs y1 y2).2⟩, fun z' Qs q2 => ⟨fun hn f2 => ?_, fun F hF hf f2 w2 e2 j2 => ?_⟩⟩
        · have h4 := (h3 z' Qs _ _ rfl rfl (pz_m (py_de y2).2 f2 (by simp)) q2).1 hn (frF_t (frF_t frF_0 (de_t (py_de y1) (py_de y2)).1 (by simp) (by simp)) f2 (by simp) (by simp))
          and_intros <;> first | omega | assumption | (intro _; first | contradiction | assumption) | skip
        · have h4 := (h3 z' Qs _ _ rfl rfl (pz_m (py_de y2).2 f2 (by simp)) q2).2 F hF hf (frF_t (frF_t frF_0 (de_t (py_de y1) (py_de y2)).1 (by simp) (by simp)) f2 (by simp) (by simp)) w2 e2 j2
          rw [← e2] at h4
          and_intros <;> first | omega | assumption | (intro _; first | contradiction | assumption) | skip
    · have h4 := h1 hs
      (repeat' first | with_reducible apply And.intro | with_reducible intro _) <;> first | omega | assumption
  · exact h.elim

