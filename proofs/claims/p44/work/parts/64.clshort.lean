def C_X5_isGoal : pvC
  | [.inr (.inr (.inl p)), .inr (.inr (.inl q)), .inl c], z, Q => ((p = 5 ∨ p = 9 ∨ p = 13) ∧ (q = 5 ∨ q = 9 ∨ q = 13) ∧ 0 ≤ c) ∧
      ((pvAnd (c / 16 % 16) (z.1 p 5) ≠ 0 ∧ pvAnd (c % 16) (z.1 q 5) = 0) → Q (.inl (some (vI 1))) z) ∧ (¬ (pvAnd (c / 16 % 16) (z.1 p 5) ≠ 0 ∧ pvAnd (c % 16) (z.1 q 5) = 0) → Q (.inl (some (vI 0))) z)
  | _, _, _ => False
def bX5_isGoal : Nat → List (Instr × Nat)
  | 0 => [(.iload_n 2, 1), (.bipush 16, 2), (.idiv, 1), (.bipush 16, 2), (.irem, 1), (.aload_n 0, 1), (.getfield 82, 3), (.iand, 1), (.ifCond .eq 19, 3), (.iload_n 2, 1), (.bipush 16, 2), (.irem, 1), (.aload_n 1, 1), (.getfield 82, 3), (.iand, 1), (.ifCond .ne 7, 3), (.iconst 1, 1), (.goto 4, 3)]
  | 31 => [(.iconst 0, 1)]
  | 32 => [(.ireturn, 1)]
  | _ => []
def uX5_isGoal : Nat → Option (List Bool)
  | _ => none
def aX5_isGoal : pvCa
  | _ => none
theorem bX5_isGoal_0 : bX5_isGoal 0 = [(.iload_n 2, 1), (.bipush 16, 2), (.idiv, 1), (.bipush 16, 2), (.irem, 1), (.aload_n 0, 1), (.getfield 82, 3), (.iand, 1), (.ifCond .eq 19, 3), (.iload_n 2, 1), (.bipush 16, 2), (.irem, 1), (.aload_n 1, 1), (.getfield 82, 3), (.iand, 1), (.ifCond .ne 7, 3), (.iconst 1, 1), (.goto 4, 3)] := rfl
theorem uX5_isGoal_0 : uX5_isGoal 0 = none := rfl
theorem bX5_isGoal_31 : bX5_isGoal 31 = [(.iconst 0, 1)] := rfl
theorem uX5_isGoal_31 : uX5_isGoal 31 = none := rfl
theorem bX5_isGoal_32 : bX5_isGoal 32 = [(.ireturn, 1)] := rfl
theorem uX5_isGoal_32 : uX5_isGoal 32 = none := rfl
set_option maxRecDepth 100000 in
set_option maxHeartbeats 4000000 in
theorem okX5_isGoal : pvOkM fX5 aX5_isGoal kX5 eX5 (some .boolean) bX5_isGoal uX5_isGoal 3 C_X5_isGoal := by
  intro Q SW hc as z h hS hz
  unfold C_X5_isGoal at h
  split at h
  · rename_i p q c
    obtain ⟨⟨hp, hq, h0⟩, h1, h2⟩ := h
    have hshp := pvSh_ps hp
    have hshq := pvSh_ps hq
    refine ⟨Nat.le_of_ble_eq_true rfl, hc 20 _ _ _ fun _ _ => ?_⟩
    clear hc hS hz
    simp only [pvSt1]
    simp only [hshp, hshq, pvE_iload_n2, pvLI_s, pvLd, pvE_bipush, pvE_idiv, pvE_irem, pvE_aload_n0, pvLA_s, pvE_getfield, pvGf_0, pvGf_1, pvGf_2, fX5_82, pvSh_0, pvSh_1, pvSh_2, pvSh_3, pvSh_4, pvSh_5, pvSh_6, pvSh_7, pvSh_8, pvSh_9, pvSh_10, pvSh_11, pvSh_12, pvSh_13, pvSh_14, pvSh_15, pvSh_16, pvSh_17, pvSh_18, pvSh_19, pvSh_20, pvSh_21, pvSh_22, pvSh_23, pvSh_24, pvSh_25, pvSh_26, pvSh_27, pvSh_28, pvSh_29, pvSh_30, pvSh_31, pvSh_32, pvSh_33, pvSh_34, pvSh_35, pvSh_36, pvSh_37, pvSh_38, pvRf_0_0, pvRf_0_1, pvRf_0_2, pvRf_0_3, pvRf_0_4, pvRf_0_5, pvRf_0_6, pvRf_0_7, pvRf_0_8, pvRf_0_9, pvRf_0_10, pvRf_1_0, pvRf_3_0, pvRf_5_0, pvRf_5_1, pvRf_5_2, pvRf_9_0, pvRf_9_1, pvRf_9_2, pvRf_13_0, pvRf_13_1, pvRf_13_2, pvRf_17_0, pvRf_17_2, pvRf_20_0, pvRf_20_1, pvRf_20_2, pvRf_24_0, pvRf_24_1, pvRf_24_2, pvRf_28_0, pvRf_28_1, pvRf_28_2, pvRf_28_3, pvRf_33_0, pvRf_33_1, pvRf_36_0, pvRf_36_1, pvE_iand, pvE_if_eq, pvE_aload_n1, pvE_if_ne, pvE_iconst, pvE_goto, pvE_ireturn, bX5_isGoal_0, uX5_isGoal_0, bX5_isGoal_31, uX5_isGoal_31, bX5_isGoal_32, uX5_isGoal_32, pvRtG, pvRecv_r, pvUp_nl, pvUp_same, pvUp_ap, pvSt_ap, pvX_c, pvX_ms, pvX_mn, pvE_nil, pvEn_i, pvEn_r, pvEn_l, pvEn_0, pvEn_s, pvRt, pvRv, pvTh, pvKc, pvGo, pvTgt, Int.toNat_natCast, false_and, and_false, true_and, and_true, if_true, if_false, reduceIte, reduceCtorEq, forall_const, false_or, or_false, true_or, or_true, ne_eq, not_true_eq_false, not_false_eq_true, implies_true, false_implies, Nat.reduceAdd, Nat.reduceSub, Nat.reduceMul, Nat.reduceEqDiff, Nat.reduceLT, Nat.reduceLeDiff, Int.reduceAdd, Int.reduceSub, Int.reduceMul, Int.reduceNeg, Int.reduceToNat, Int.reduceLE, Int.reduceLT, Int.reduceEq, Int.reduceNe, and_self]
    by_cases hg : pvAnd (c / 16 % 16) (z.1 p 5) ≠ 0 ∧ pvAnd (c % 16) (z.1 q 5) = 0
    · have h3 := h1 hg
      (repeat' first | with_reducible apply And.intro | with_reducible intro _)
      all_goals first
        | omega
        | assumption
        | exact absurd (by assumption) hg.1
        | exact absurd hg.2 (by assumption)
    · have h3 := h2 hg
      (repeat' first | with_reducible apply And.intro | with_reducible intro _)
      all_goals first
        | omega
        | assumption
        | (exfalso; apply hg; constructor <;> assumption)
  · exact h.elim
theorem go_ps {z : pvM} {p q : Nat} {A B : Aut} (hA : psS z p A) (hB : psS z q B) (c : Int) : goF A B c ↔ (pvAnd (c / 16 % 16) (z.1 p 5) ≠ 0 ∧ pvAnd (c % 16) (z.1 q 5) = 0) := by
  unfold goF
  rw [hA.2.2.2.1, hB.2.2.2.1]
def C_X5_hasGoal : pvC
  | [.inr (.inr (.inl id)), .inr (.inr (.inl p)), .inr (.inr (.inl q)), .inl f, .inl t], z, Q => id = 28 ∧ ∃ (A B : Aut) (Qs : List Int), (quF z Qs ∧ psS z p A ∧ psS z q B ∧ 0 ≤ f ∧ f ≤ t ∧ t ≤ Qs.length) ∧
      ((∃ i : Nat, f ≤ i ∧ i < t ∧ goF A B (ndF Qs i)) → Q (.inl (some (vI 1))) z) ∧ ((∀ i : Nat, f ≤ i → i < t → ¬ goF A B (ndF Qs i)) → Q (.inl (some (vI 0))) z)
  | _, _, _ => False
def bX5_hasGoal : Nat → List (Instr × Nat)
  | 0 => [(.iload_n 3, 1), (.istore 5, 2)]
  | 3 => [(.iload 5, 2), (.iload 4, 2), (.if_icmp .ge 25, 3), (.aload_n 1, 1), (.aload_n 2, 1), (.aload_n 0, 1), (.iload 5, 2), (.invokevirtual 67, 3), (.invokestatic 85, 3), (.ifCond .eq 5, 3), (.iconst 1, 1), (.ireturn, 1)]
  | 26 => [(.iinc 5 1, 3), (.goto (-26), 3)]
  | 32 => [(.iconst 0, 1), (.ireturn, 1)]
  | _ => []
def uX5_hasGoal : Nat → Option (List Bool)
  | 3 => some [true, true, true, false, true, true]
  | _ => none
def aX5_hasGoal : pvCa
  | 67 => some (2, false, 5, 0, C_X5_configurationAt)
  | 85 => some (3, true, 0, 0, C_X5_isGoal)
  | _ => none
theorem bX5_hasGoal_0 : bX5_hasGoal 0 = [(.iload_n 3, 1), (.istore 5, 2)] := rfl
theorem uX5_hasGoal_0 : uX5_hasGoal 0 = none := rfl
theorem bX5_hasGoal_3 : bX5_hasGoal 3 = [(.iload 5, 2), (.iload 4, 2), (.if_icmp .ge 25, 3), (.aload_n 1, 1), (.aload_n 2, 1), (.aload_n 0, 1), (.iload 5, 2), (.invokevirtual 67, 3), (.invokestatic 85, 3), (.ifCond .eq 5, 3), (.iconst 1, 1), (.ireturn, 1)] := rfl
theorem uX5_hasGoal_3 : uX5_hasGoal 3 = some [true, true, true, false, true, true] := rfl
theorem bX5_hasGoal_26 : bX5_hasGoal 26 = [(.iinc 5 1, 3), (.goto (-26), 3)] := rfl
theorem uX5_hasGoal_26 : uX5_hasGoal 26 = none := rfl
theorem bX5_hasGoal_32 : bX5_hasGoal 32 = [(.iconst 0, 1), (.ireturn, 1)] := rfl
theorem uX5_hasGoal_32 : uX5_hasGoal 32 = none := rfl
theorem aX5_hasGoal_67 : aX5_hasGoal 67 = some (2, false, 5, 0, C_X5_configurationAt) := rfl
theorem aX5_hasGoal_85 : aX5_hasGoal 85 = some (3, true, 0, 0, C_X5_isGoal) := rfl
set_option maxRecDepth 100000 in
set_option maxHeartbeats 4000000 in
theorem okX5_hasGoal : pvOkM fX5 aX5_hasGoal kX5 eX5 (some .boolean) bX5_hasGoal uX5_hasGoal 6 C_X5_hasGoal := by
  intro Q SW hc as z h hS hz
  unfold C_X5_hasGoal at h
  split at h
  · rename_i id p q f t
    obtain ⟨rfl, A, B, Qs, ⟨hq, hA, hB, h0, hft, ht⟩, h1, h2⟩ := h
    have hlen := qu_len hq.2.2.2.1 hq.2.2.2.2
    have hshp := pvSh_ps hA.1
    have hshq := pvSh_ps hB.1
    have hid1 := hA.1
    have hid2 := hB.1
    obtain ⟨f, rfl⟩ : ∃ n : Nat, f = n := ⟨f.toNat, by omega⟩
    obtain ⟨t, rfl⟩ : ∃ n : Nat, t = n := ⟨t.toNat, by omega⟩
    refine ⟨Nat.le_of_ble_eq_true rfl, ?_⟩
    have loop : ∀ (m k : Nat), k + m = t → f ≤ k → (∀ i : Nat, f ≤ i → i < k → ¬ goF A B (ndF Qs i)) → SW 3 [some (vR 28), some (vR p), some (vR q), none, some (vI (t : Int)), some (vI (k : Int))] z := by
      intro m
      induction m using Nat.strongRecOn with
      | _ m ih =>
        intro k hk hfk hn
        refine hc 20 _ _ _ fun _ _ => ?_
        simp only [pvSt1]
        by_cases hx : t ≤ k
        · have q9 := h2 (fun i h3 h4 => hn i (by omega) (by omega))
          simp only [C_X5_configurationAt, C_X5_isGoal, pvE_iload_n3, pvLI_s, pvLd, pvE_istore, pvS1, List.length_cons, List.length_nil, pvClr_i, pvClr_r, pvClr_l, pvClr_d, pvClr_f, pvClr_n, pvE_iload, pvE_icmp_ge, pvE_aload_n1, pvLA_s, pvE_aload_n2, pvE_aload_n0, pvE_invokevirtual, pvC1_s, pvC2_s, pvAf_v, pvAf_x, pvPop, pvCs, pvCat, pvPush, aX5_hasGoal_67, pvSh_0, pvSh_1, pvSh_2, pvSh_3, pvSh_4, pvSh_5, pvSh_6, pvSh_7, pvSh_8, pvSh_9, pvSh_10, pvSh_11, pvSh_12, pvSh_13, pvSh_14, pvSh_15, pvSh_16, pvSh_17, pvSh_18, pvSh_19, pvSh_20, pvSh_21, pvSh_22, pvSh_23, pvSh_24, pvSh_25, pvSh_26, pvSh_27, pvSh_28, pvSh_29, pvSh_30, pvSh_31, pvSh_32, pvSh_33, pvSh_34, pvSh_35, pvSh_36, pvSh_37, pvSh_38, pvE_invokestatic (h0 := eX5_85), aX5_hasGoal_85, pvE_if_eq, pvE_iconst, pvE_ireturn, pvE_iinc, pvIc_s, pvE_goto, bX5_hasGoal_0, uX5_hasGoal_0, bX5_hasGoal_3, uX5_hasGoal_3, bX5_hasGoal_26, uX5_hasGoal_26, bX5_hasGoal_32, uX5_hasGoal_32, pvMk_t, pvMk_f, pvMk_n, pvRtG, pvRecv_r, pvUp_nl, pvUp_same, pvUp_ap, pvSt_ap, pvX_c, pvX_ms, pvX_mn, pvE_nil, pvEn_i, pvEn_r, pvEn_l, pvEn_0, pvEn_s, pvRt, pvRv, pvTh, pvKc, pvGo, pvTgt, Int.toNat_natCast, false_and, and_false, true_and, and_true, if_true, if_false, reduceIte, reduceCtorEq, forall_const, false_or, or_false, true_or, or_true, ne_eq, not_true_eq_false, not_false_eq_true, implies_true, false_implies, Nat.reduceAdd, Nat.reduceSub, Nat.reduceMul, Nat.reduceEqDiff, Nat.reduceLT, Nat.reduceLeDiff, Int.reduceAdd, Int.reduceSub, Int.reduceMul, Int.reduceNeg, Int.reduceToNat, Int.reduceLE, Int.reduceLT, Int.reduceEq, Int.reduceNe, and_self]
          (repeat' first | with_reducible apply And.intro | with_reducible intro _)
          all_goals first
            | omega
            | exact q9
        · have ek := hq.2.1 k (by omega)
          have hok := hq.2.2.2.2 _ (ndF_m (L := Qs) (i := k) (by omega))
          have hk0 := hok.1
          have hg := go_ps hA hB (ndF Qs k)
          simp only [C_X5_configurationAt, C_X5_isGoal, ek, pvE_iload_n3, pvLI_s, pvLd, pvE_istore, pvS1, List.length_cons, List.length_nil, pvClr_i, pvClr_r, pvClr_l, pvClr_d, pvClr_f, pvClr_n, pvE_iload, pvE_icmp_ge, pvE_aload_n1, pvLA_s, pvE_aload_n2, pvE_aload_n0, pvE_invokevirtual, pvC1_s, pvC2_s, pvAf_v, pvAf_x, pvPop, pvCs, pvCat, pvPush, aX5_hasGoal_67, pvSh_0, pvSh_1, pvSh_2, pvSh_3, pvSh_4, pvSh_5, pvSh_6, pvSh_7, pvSh_8, pvSh_9, pvSh_10, pvSh_11, pvSh_12, pvSh_13, pvSh_14, pvSh_15, pvSh_16, pvSh_17, pvSh_18, pvSh_19, pvSh_20, pvSh_21, pvSh_22, pvSh_23, pvSh_24, pvSh_25, pvSh_26, pvSh_27, pvSh_28, pvSh_29, pvSh_30, pvSh_31, pvSh_32, pvSh_33, pvSh_34, pvSh_35, pvSh_36, pvSh_37, pvSh_38, pvE_invokestatic (h0 := eX5_85), aX5_hasGoal_85, pvE_if_eq, pvE_iconst, pvE_ireturn, pvE_iinc, pvIc_s, pvE_goto, bX5_hasGoal_0, uX5_hasGoal_0, bX5_hasGoal_3, uX5_hasGoal_3, bX5_hasGoal_26, uX5_hasGoal_26, bX5_hasGoal_32, uX5_hasGoal_32, pvMk_t, pvMk_f, pvMk_n, pvRtG, pvRecv_r, pvUp_nl, pvUp_same, pvUp_ap, pvSt_ap, pvX_c, pvX_ms, pvX_mn, pvE_nil, pvEn_i, pvEn_r, pvEn_l, pvEn_0, pvEn_s, pvRt, pvRv, pvTh, pvKc, pvGo, pvTgt, Int.toNat_natCast, false_and, and_false, true_and, and_true, if_true, if_false, reduceIte, reduceCtorEq, forall_const, false_or, or_false, true_or, or_true, ne_eq, not_true_eq_false, not_false_eq_true, implies_true, false_implies, Nat.reduceAdd, Nat.reduceSub, Nat.reduceMul, Nat.reduceEqDiff, Nat.reduceLT, Nat.reduceLeDiff, Int.reduceAdd, Int.reduceSub, Int.reduceMul, Int.reduceNeg, Int.reduceToNat, Int.reduceLE, Int.reduceLT, Int.reduceEq, Int.reduceNe, and_self]
          by_cases e : goF A B (ndF Qs k)
          · have q9 := h1 ⟨k, by omega, by omega, e⟩
            have e2 := hg.mp e
            (repeat' first | with_reducible apply And.intro | with_reducible intro _)
            all_goals first
              | omega
              | assumption
              | (exfalso; apply_assumption; exact e2)
              | contradiction
          · have q9 := ih (m - 1) (by omega) (k + 1) (by omega) (by omega) (fun i h3 h4 => by
              by_cases ei : i = k
              · subst ei; exact e
              · exact hn i h3 (by omega))
            have e2 := mt hg.mpr e
            (repeat' first | with_reducible apply And.intro | with_reducible intro _)
            all_goals first
              | omega
              | assumption
              | (exfalso; exact e2 (by assumption))
              | contradiction
    refine hc 20 _ _ _ fun _ _ => ?_
    simp only [pvSt1]
    simp only [pvE_iload_n3, pvLI_s, pvLd, pvE_istore, pvS1, List.length_cons, List.length_nil, pvClr_i, pvClr_r, pvClr_l, pvClr_d, pvClr_f, pvClr_n, pvE_iload, pvE_icmp_ge, pvE_aload_n1, pvLA_s, pvE_aload_n2, pvE_aload_n0, pvE_invokevirtual, pvC1_s, pvC2_s, pvAf_v, pvAf_x, pvPop, pvCs, pvCat, pvPush, aX5_hasGoal_67, pvSh_0, pvSh_1, pvSh_2, pvSh_3, pvSh_4, pvSh_5, pvSh_6, pvSh_7, pvSh_8, pvSh_9, pvSh_10, pvSh_11, pvSh_12, pvSh_13, pvSh_14, pvSh_15, pvSh_16, pvSh_17, pvSh_18, pvSh_19, pvSh_20, pvSh_21, pvSh_22, pvSh_23, pvSh_24, pvSh_25, pvSh_26, pvSh_27, pvSh_28, pvSh_29, pvSh_30, pvSh_31, pvSh_32, pvSh_33, pvSh_34, pvSh_35, pvSh_36, pvSh_37, pvSh_38, pvE_invokestatic (h0 := eX5_85), aX5_hasGoal_85, pvE_if_eq, pvE_iconst, pvE_ireturn, pvE_iinc, pvIc_s, pvE_goto, bX5_hasGoal_0, uX5_hasGoal_0, bX5_hasGoal_3, uX5_hasGoal_3, bX5_hasGoal_26, uX5_hasGoal_26, bX5_hasGoal_32, uX5_hasGoal_32, pvMk_t, pvMk_f, pvMk_n, pvRtG, pvRecv_r, pvUp_nl, pvUp_same, pvUp_ap, pvSt_ap, pvX_c, pvX_ms, pvX_mn, pvE_nil, pvEn_i, pvEn_r, pvEn_l, pvEn_0, pvEn_s, pvRt, pvRv, pvTh, pvKc, pvGo, pvTgt, Int.toNat_natCast, false_and, and_false, true_and, and_true, if_true, if_false, reduceIte, reduceCtorEq, forall_const, false_or, or_false, true_or, or_true, ne_eq, not_true_eq_false, not_false_eq_true, implies_true, false_implies, Nat.reduceAdd, Nat.reduceSub, Nat.reduceMul, Nat.reduceEqDiff, Nat.reduceLT, Nat.reduceLeDiff, Int.reduceAdd, Int.reduceSub, Int.reduceMul, Int.reduceNeg, Int.reduceToNat, Int.reduceLE, Int.reduceLT, Int.reduceEq, Int.reduceNe, and_self]
    (repeat' first | with_reducible apply And.intro | with_reducible intro _)
    all_goals first
      | omega
      | exact loop (t - f) f (by omega) (Nat.le_refl _) (fun i h3 h4 => by omega)
  · exact h.elim
theorem rc_cl {A B : Aut} {e : Nat} (h : ∀ c, rcK A B e c → ∃ m, m < e ∧ rcK A B m c) (n : Nat) : ∀ c, rcK A B n c → ∃ m, m < e ∧ rcK A B m c := by
  induction n with
  | zero =>
    intro c hc
    by_cases he : e = 0
    · subst he
      exact h c hc
    · exact ⟨0, by omega, hc⟩
  | succ n ih =>
    rintro c ⟨c', a, d, h1, ha, hd, hs, h0⟩
    obtain ⟨m, h2, h3⟩ := ih c' h1
    have h4 : rcK A B (m + 1) c := ⟨c', a, d, h3, ha, hd, hs, h0⟩
    by_cases e1 : m + 1 < e
    · exact ⟨m + 1, e1, h4⟩
    · rw [show m + 1 = e by omega] at h4
      exact h c h4
/-- where the levels begin in the queue, up to level J -/
def saP (A B : Aut) (z : pvM) (Qs : List Int) (J : Nat) : Prop := ∀ j : Nat, j < J → j ≤ 11 → (0 ≤ z.1 32 j ∧ z.1 32 j ≤ Qs.length) ∧ ∀ i : Nat, i < Qs.length → ((i : Int) < z.1 32 j ↔ ∃ n, n < j ∧ rcK A B n (ndF Qs i))
def C_X5_shortest : pvC
  | [.inr (.inr (.inl id)), .inr (.inr (.inl p)), .inr (.inr (.inl q)), .inl mo], z, Q => id = 28 ∧ ∃ (A B : Aut) (Q0 : List Int), (quF z Q0 ∧ psS z p A ∧ psS z q B ∧ (mo = 10 ∨ mo = 23552)) ∧
      ∀ (z' : pvM) (Qs : List Int), frF [28, 29, 30, 32] [] z z' → quF z' Qs →
        ((∀ n : Nat, (mo = 10 → n ≤ 10) → ∀ c, rcK A B n c → ¬ goF A B c) → Q (.inl (some (vI (-1)))) z') ∧
        (∀ F : Nat, fdF A B F → F ≤ 23552 → (mo = 10 → F ≤ 10) → (∀ c, c ∈ Qs ↔ ∃ n, n ≤ F ∧ rcK A B n c) → saP A B z' Qs (F + 2) → Q (.inl (some (vI (F : Int)))) z')
  | _, _, _ => False
def bX5_shortest : Nat → List (Instr × Nat)
  | 0 => [(.aload_n 0, 1), (.invokevirtual 45, 3), (.aload_n 0, 1), (.sipush 215, 3), (.aload_n 1, 1), (.getfield 50, 3), (.aload_n 2, 1), (.getfield 50, 3), (.invokevirtual 55, 3), (.iconst 0, 1), (.istore 4, 2), (.iconst 0, 1), (.istore 5, 2)]
  | 25 => [(.iload 5, 2), (.iload_n 3, 1), (.if_icmp .gt 97, 3), (.iload 4, 2), (.aload_n 0, 1), (.getfield 24, 3), (.if_icmp .ge 88, 3), (.aload_n 0, 1), (.getfield 24, 3), (.istore 6, 2), (.aload_n 0, 1), (.iload 5, 2), (.iload 4, 2), (.invokevirtual 59, 3), (.aload_n 0, 1), (.iload 5, 2), (.iconst 1, 1), (.iadd, 1), (.iload 6, 2), (.invokevirtual 59, 3), (.aload_n 0, 1), (.aload_n 1, 1), (.aload_n 2, 1), (.iload 4, 2), (.iload 6, 2), (.invokevirtual 63, 3), (.ifCond .eq 6, 3), (.iload 5, 2), (.ireturn, 1)]
  | 80 => [(.iload 4, 2), (.istore 7, 2)]
  | 84 => [(.iload 7, 2), (.iload 6, 2), (.if_icmp .ge 27, 3), (.iload 5, 2), (.iload_n 3, 1), (.if_icmp .ge 21, 3), (.aload_n 0, 1), (.aload_n 1, 1), (.aload_n 2, 1), (.aload_n 0, 1), (.iload 7, 2), (.invokevirtual 67, 3), (.invokevirtual 71, 3), (.iinc 7 1, 3), (.goto (-28), 3)]
  | 115 => [(.iload 6, 2), (.istore 4, 2), (.iinc 5 1, 3), (.goto (-97), 3)]
  | 125 => [(.iconst (-1), 1), (.ireturn, 1)]
  | _ => []
def uX5_shortest : Nat → Option (List Bool)
  | 25 => some [true, true, true, true, true, true, false, false]
  | 84 => some [true, true, true, true, false, true, true, true]
  | _ => none
def aX5_shortest : pvCa
  | 45 => some (1, false, 5, 0, C_X5_forget)
  | 55 => some (4, false, 5, 0, C_X5_enter)
  | 59 => some (3, false, 5, 0, C_X5_putStart)
  | 63 => some (5, false, 5, 0, C_X5_hasGoal)
  | 67 => some (2, false, 5, 0, C_X5_configurationAt)
  | 71 => some (4, false, 5, 0, C_X5_expand)
  | _ => none
theorem bX5_shortest_0 : bX5_shortest 0 = [(.aload_n 0, 1), (.invokevirtual 45, 3), (.aload_n 0, 1), (.sipush 215, 3), (.aload_n 1, 1), (.getfield 50, 3), (.aload_n 2, 1), (.getfield 50, 3), (.invokevirtual 55, 3), (.iconst 0, 1), (.istore 4, 2), (.iconst 0, 1), (.istore 5, 2)] := rfl
theorem uX5_shortest_0 : uX5_shortest 0 = none := rfl
theorem bX5_shortest_25 : bX5_shortest 25 = [(.iload 5, 2), (.iload_n 3, 1), (.if_icmp .gt 97, 3), (.iload 4, 2), (.aload_n 0, 1), (.getfield 24, 3), (.if_icmp .ge 88, 3), (.aload_n 0, 1), (.getfield 24, 3), (.istore 6, 2), (.aload_n 0, 1), (.iload 5, 2), (.iload 4, 2), (.invokevirtual 59, 3), (.aload_n 0, 1), (.iload 5, 2), (.iconst 1, 1), (.iadd, 1), (.iload 6, 2), (.invokevirtual 59, 3), (.aload_n 0, 1), (.aload_n 1, 1), (.aload_n 2, 1), (.iload 4, 2), (.iload 6, 2), (.invokevirtual 63, 3), (.ifCond .eq 6, 3), (.iload 5, 2), (.ireturn, 1)] := rfl
theorem uX5_shortest_25 : uX5_shortest 25 = some [true, true, true, true, true, true, false, false] := rfl
theorem bX5_shortest_80 : bX5_shortest 80 = [(.iload 4, 2), (.istore 7, 2)] := rfl
theorem uX5_shortest_80 : uX5_shortest 80 = none := rfl
theorem bX5_shortest_84 : bX5_shortest 84 = [(.iload 7, 2), (.iload 6, 2), (.if_icmp .ge 27, 3), (.iload 5, 2), (.iload_n 3, 1), (.if_icmp .ge 21, 3), (.aload_n 0, 1), (.aload_n 1, 1), (.aload_n 2, 1), (.aload_n 0, 1), (.iload 7, 2), (.invokevirtual 67, 3), (.invokevirtual 71, 3), (.iinc 7 1, 3), (.goto (-28), 3)] := rfl
theorem uX5_shortest_84 : uX5_shortest 84 = some [true, true, true, true, false, true, true, true] := rfl
theorem bX5_shortest_115 : bX5_shortest 115 = [(.iload 6, 2), (.istore 4, 2), (.iinc 5 1, 3), (.goto (-97), 3)] := rfl
theorem uX5_shortest_115 : uX5_shortest 115 = none := rfl
theorem bX5_shortest_125 : bX5_shortest 125 = [(.iconst (-1), 1), (.ireturn, 1)] := rfl
theorem uX5_shortest_125 : uX5_shortest 125 = none := rfl
theorem aX5_shortest_45 : aX5_shortest 45 = some (1, false, 5, 0, C_X5_forget) := rfl
theorem aX5_shortest_55 : aX5_shortest 55 = some (4, false, 5, 0, C_X5_enter) := rfl
theorem aX5_shortest_59 : aX5_shortest 59 = some (3, false, 5, 0, C_X5_putStart) := rfl
theorem aX5_shortest_63 : aX5_shortest 63 = some (5, false, 5, 0, C_X5_hasGoal) := rfl
theorem aX5_shortest_67 : aX5_shortest 67 = some (2, false, 5, 0, C_X5_configurationAt) := rfl
theorem aX5_shortest_71 : aX5_shortest 71 = some (4, false, 5, 0, C_X5_expand) := rfl
set_option maxRecDepth 100000 in
set_option maxHeartbeats 4000000 in
theorem okX5_shortest : pvOkM fX5 aX5_shortest kX5 eX5 (some .int) bX5_shortest uX5_shortest 8 C_X5_shortest := by
  intro Q SW hc as z h hS hz
  unfold C_X5_shortest at h
  split at h
  · rename_i id p q mo
    obtain ⟨rfl, A, B, Q0, ⟨hq0, hA, hB, hmo⟩, h2⟩ := h
    have hshp := pvSh_ps hA.1
    have hshq := pvSh_ps hB.1
    have hid1 := hA.1
    have hid2 := hB.1
    have wA := hA.2.2.2.2
    have wB := hB.2.2.2.2
    refine ⟨Nat.le_of_ble_eq_true rfl, ?_⟩
    have done : ∀ (z' : pvM) (Qs : List Int) (e f : Int), frF [28, 29, 30, 32] [] z z' → quF z' Qs → (mo < e ∨ (Qs.length : Int) ≤ f) → (∀ n : Nat, (mo = 10 → n ≤ 10) → ∀ c, rcK A B n c → ¬ goF A B c) →
        SW 25 [some (vR 28), some (vR p), some (vR q), some (vI mo), some (vI f), some (vI e), none, none] z' := by
      intro z' Qs e f f1 hq' hex hno
      have q9 := (h2 z' Qs f1 hq').1 hno
      have e4 := hq'.1
      refine hc 20 _ _ _ fun _ _ => ?_
      clear hc
      simp only [pvSt1]
      simp only [C_X5_putStart, C_X5_hasGoal, e4, pvE_aload_n0, pvLA_s, pvLd, pvE_invokevirtual, pvC1_s, pvC2_s, pvAf_v, pvAf_x, pvPop, pvCs, pvCat, pvPush, aX5_shortest_45, pvSh_0, pvSh_1, pvSh_2, pvSh_3, pvSh_4, pvSh_5, pvSh_6, pvSh_7, pvSh_8, pvSh_9, pvSh_10, pvSh_11, pvSh_12, pvSh_13, pvSh_14, pvSh_15, pvSh_16, pvSh_17, pvSh_18, pvSh_19, pvSh_20, pvSh_21, pvSh_22, pvSh_23, pvSh_24, pvSh_25, pvSh_26, pvSh_27, pvSh_28, pvSh_29, pvSh_30, pvSh_31, pvSh_32, pvSh_33, pvSh_34, pvSh_35, pvSh_36, pvSh_37, pvSh_38, pvE_sipush, pvE_aload_n1, pvE_getfield, pvGf_0, pvGf_1, pvGf_2, fX5_50, pvRf_0_0, pvRf_0_1, pvRf_0_2, pvRf_0_3, pvRf_0_4, pvRf_0_5, pvRf_0_6, pvRf_0_7, pvRf_0_8, pvRf_0_9, pvRf_0_10, pvRf_1_0, pvRf_3_0, pvRf_5_0, pvRf_5_1, pvRf_5_2, pvRf_9_0, pvRf_9_1, pvRf_9_2, pvRf_13_0, pvRf_13_1, pvRf_13_2, pvRf_17_0, pvRf_17_2, pvRf_20_0, pvRf_20_1, pvRf_20_2, pvRf_24_0, pvRf_24_1, pvRf_24_2, pvRf_28_0, pvRf_28_1, pvRf_28_2, pvRf_28_3, pvRf_33_0, pvRf_33_1, pvRf_36_0, pvRf_36_1, pvE_aload_n2, aX5_shortest_55, pvE_iconst, pvE_istore, pvS1, List.length_cons, List.length_nil, pvClr_i, pvClr_r, pvClr_l, pvClr_d, pvClr_f, pvClr_n, pvE_iload, pvLI_s, pvE_iload_n3, pvE_icmp_gt, fX5_24, pvE_icmp_ge, aX5_shortest_59, pvE_iadd, aX5_shortest_63, pvE_if_eq, pvE_ireturn, aX5_shortest_67, aX5_shortest_71, pvE_iinc, pvIc_s, pvE_goto, bX5_shortest_0, uX5_shortest_0, bX5_shortest_25, uX5_shortest_25, bX5_shortest_80, uX5_shortest_80, bX5_shortest_84, uX5_shortest_84, bX5_shortest_115, uX5_shortest_115, bX5_shortest_125, uX5_shortest_125, pvMk_t, pvMk_f, pvMk_n, pvRtG, pvRecv_r, pvUp_nl, pvUp_same, pvUp_ap, pvSt_ap, pvX_c, pvX_ms, pvX_mn, pvE_nil, pvEn_i, pvEn_r, pvEn_l, pvEn_0, pvEn_s, pvRt, pvRv, pvTh, pvKc, pvGo, pvTgt, Int.toNat_natCast, false_and, and_false, true_and, and_true, if_true, if_false, reduceIte, reduceCtorEq, forall_const, false_or, or_false, true_or, or_true, ne_eq, not_true_eq_false, not_false_eq_true, implies_true, false_implies, Nat.reduceAdd, Nat.reduceSub, Nat.reduceMul, Nat.reduceEqDiff, Nat.reduceLT, Nat.reduceLeDiff, Int.reduceAdd, Int.reduceSub, Int.reduceMul, Int.reduceNeg, Int.reduceToNat, Int.reduceLE, Int.reduceLT, Int.reduceEq, Int.reduceNe, and_self]
      (repeat' first | with_reducible apply And.intro | with_reducible intro _)
      all_goals first
        | omega
        | exact q9
    have head : ∀ (m e f : Nat) (z' : pvM) (Qs : List Int), e + m = 23552 → (e : Int) ≤ mo → frF [28, 29, 30, 32] [] z z' → quF z' Qs → (∀ c, c ∈ Qs ↔ ∃ n, n ≤ e ∧ rcK A B n c) → (∀ i, i < Qs.length → (i < f ↔ ∃ n, n < e ∧ rcK A B n (ndF Qs i))) → (∀ n, n < e → ∀ c, rcK A B n c → ¬ goF A B c) → f ≤ Qs.length → e ≤ f → saP A B z' Qs e →
        SW 25 [some (vR 28), some (vR p), some (vR q), some (vI mo), some (vI (f : Int)), some (vI (e : Int)), none, none] z' := by
      intro m
      induction m using Nat.strongRecOn with
      | _ m ih =>
        intro e f z' Qs hem hemo f1 hq' ha hb hcg hf hef hst
        have hlen := qu_len hq'.2.2.2.1 hq'.2.2.2.2
        by_cases hfl : Qs.length ≤ f
        · refine done z' Qs e f f1 hq' (Or.inr (by omega)) (fun n _ c hr hg => ?_)
          have hcl : ∀ c, rcK A B e c → ∃ m, m < e ∧ rcK A B m c := fun c hr => by
            obtain ⟨x1, x2⟩ := ixN_lt ((ha c).mpr ⟨e, Nat.le_refl _, hr⟩)
            have := (hb _ x1).mp (by omega)
            rw [x2] at this
            exact this
          obtain ⟨m', h3, h4⟩ := rc_cl hcl n c hr
          exact hcg m' h3 c h4 hg
        · have e4 := hq'.1
          obtain ⟨z2, ez2⟩ : ∃ z2 : pvM, z2 = (if (e : Int) + 1 ≤ 11 then (pvUp (if (e : Int) ≤ 11 then pvUp z'.1 32 e (f : Int) else z'.1) 32 (e + 1) (Qs.length : Int), z'.2) else ((if (e : Int) ≤ 11 then pvUp z'.1 32 e (f : Int) else z'.1), z'.2)) := ⟨_, rfl⟩
          have f2 : frF [28, 29, 30, 32] [] z z2 := by
            rw [ez2]
            (repeat' split) <;> (repeat' first | assumption | exact frF_0 | (refine frF_u ?_ (by decide)) | (refine frF_s ?_ (by decide)) | (refine frF_l ?_ (by decide)))
          have o2 : ∀ i, i ≠ 32 → z2.1 i = z'.1 i := by
            intro i hi
            rw [ez2]
            (repeat' split) <;> simp only [pvUp_ne hi]
          have hq2 : quF z2 Qs := by
            unfold quF
            rw [o2 28 (by decide), o2 29 (by decide), o2 30 (by decide)]
            exact hq'
          have hst2 : saP A B z2 Qs (e + 2) := by
            intro j hj hj11
            have hje : z2.1 32 j = if j = e + 1 then (Qs.length : Int) else if j = e then (f : Int) else z'.1 32 j := by
              rw [ez2]
              by_cases x1 : (e : Int) + 1 ≤ 11
              · rw [if_pos x1, if_pos (by omega)]
                simp only [pvUp_ap, true_and]
              · rw [if_neg x1]
                by_cases x2 : (e : Int) ≤ 11
                · rw [if_pos x2, if_neg (by omega)]
                  simp only [pvUp_ap, true_and]
                · rw [if_neg x2, if_neg (by omega), if_neg (by omega)]
            rw [hje]
            by_cases x1 : j = e + 1
            · rw [if_pos x1]
              refine ⟨by omega, fun i hi => ⟨fun _ => ?_, fun _ => by omega⟩⟩
              obtain ⟨n, n1, n2⟩ := (ha _).mp (ndF_m hi)
              exact ⟨n, by omega, n2⟩
            · rw [if_neg x1]
              by_cases x2 : j = e
              · subst x2
                rw [if_pos rfl]
                refine ⟨by omega, fun i hi => ?_⟩
                rw [← hb i hi]
                omega
              · rw [if_neg x2]
                exact hst j (by omega) hj11
          have hA2 := psS_m hA f2 (by simp)
          have hB2 := psS_m hB f2 (by simp)
          have goal : (∃ i : Nat, (f : Int) ≤ i ∧ (i : Int) < Qs.length ∧ goF A B (ndF Qs i)) → Q (.inl (some (vI (e : Int)))) z2 := by
            rintro ⟨i, i1, i2, i3⟩
            obtain ⟨n, n1, n2⟩ := (ha _).mp (ndF_m (L := Qs) (i := i) (by omega))
            have hnlt : ¬ n < e := fun h => by
              have := (hb i (by omega)).mpr ⟨n, h, n2⟩
              omega
            obtain rfl : n = e := by omega
            exact (h2 z2 Qs f2 hq2).2 n ⟨⟨_, n2, i3⟩, hcg⟩ (by omega) (fun h => by omega) ha hst2
          have nogoal : (∀ i : Nat, (f : Int) ≤ i → (i : Int) < Qs.length → ¬ goF A B (ndF Qs i)) → SW 84 [some (vR 28), some (vR p), some (vR q), some (vI mo), none, some (vI (e : Int)), some (vI (Qs.length : Int)), some (vI (f : Int))] z2 := by
            intro hng
            have hce : ∀ n, n < e + 1 → ∀ c, rcK A B n c → ¬ goF A B c := fun n hn c hr hg => by
              by_cases en : n < e
              · exact hcg n en c hr hg
              · obtain rfl : n = e := by omega
                obtain ⟨x1, x2⟩ := ixN_lt ((ha c).mpr ⟨n, Nat.le_refl _, hr⟩)
                by_cases xf : ixN Qs c < f
                · obtain ⟨m', y1, y2⟩ := (hb _ x1).mp xf
                  rw [x2] at y2
                  exact hcg m' y1 c y2 hg
                · exact hng (ixN Qs c) (by omega) (by omega) (by rw [x2]; exact hg)
            by_cases hel : (e : Int) < mo
            · have loop : ∀ (mk k : Nat) (z3 : pvM) (Q3 : List Int), k + mk = Qs.length → f ≤ k → frF [28, 29, 30] [] z2 z3 → quF z3 Q3 → (∃ M, Q3 = Qs ++ M) → (∀ x, x ∈ Q3 ↔ x ∈ Qs ∨ ∃ (i : Nat) (a d : Int), (f ≤ i ∧ i < k) ∧ (0 ≤ a ∧ a ≤ 2) ∧ (0 ≤ d ∧ d ≤ 4) ∧ stF1 A B (ndF Qs i) a d = x ∧ 0 ≤ x) →
                  SW 84 [some (vR 28), some (vR p), some (vR q), some (vI mo), none, some (vI (e : Int)), some (vI (Qs.length : Int)), some (vI (k : Int))] z3 := by
                intro mk
                induction mk using Nat.strongRecOn with
                | _ mk ihk =>
                  intro k z3 Q3 hk hfk f3 hq3 hM hX
                  obtain ⟨M, eM⟩ := hM
                  by_cases hkl : Qs.length ≤ k
                  · have hl4 : Qs.length ≤ Q3.length := by rw [eM, List.length_append]; omega
                    have hnew : ∀ i, Qs.length ≤ i → i < Q3.length → ndF Q3 i ∉ Qs := fun i i1 i2 hm => by
                      obtain ⟨x1, x2⟩ := ixN_lt hm
                      have h9 : ndF Q3 (ixN Qs (ndF Q3 i)) = ndF Q3 i := by
                        have e1 := ndF_a (M := M) x1
                        rw [← eM] at e1
                        exact e1.trans x2
                      have := ndF_inj hq3.2.2.2.1 (by omega) i2 h9
                      omega
                    have ha3 : ∀ c, c ∈ Q3 ↔ ∃ n, n ≤ e + 1 ∧ rcK A B n c := fun c => by
                      rw [hX c, ha c]
                      constructor
                      · rintro (⟨n, n1, n2⟩ | ⟨i, a, d, i1, h5, h6, h7, h8⟩)
                        · exact ⟨n, by omega, n2⟩
                        · obtain ⟨n, n1, n2⟩ := (ha _).mp (ndF_m (L := Qs) (i := i) (by omega))
                          exact ⟨n + 1, by omega, ⟨_, a, d, n2, h5, h6, h7, h8⟩⟩
                      · rintro ⟨n, n1, n2⟩
                        by_cases en : n ≤ e
                        · exact Or.inl ⟨n, en, n2⟩
                        · obtain rfl : n = e + 1 := by omega
                          obtain ⟨c', a, d, h3, h5, h6, h7, h8⟩ := n2
                          obtain ⟨x1, x2⟩ := ixN_lt ((ha c').mpr ⟨e, Nat.le_refl _, h3⟩)
                          by_cases xf : ixN Qs c' < f
                          · obtain ⟨m', y1, y2⟩ := (hb _ x1).mp xf
                            rw [x2] at y2
                            exact Or.inl ⟨m' + 1, by omega, ⟨c', a, d, y2, h5, h6, h7, h8⟩⟩
                          · exact Or.inr ⟨ixN Qs c', a, d, by omega, h5, h6, by rw [x2]; exact h7, h8⟩
                    have hl3 : Qs.length ≤ Q3.length := by rw [eM, List.length_append]; omega
                    have hnd : ∀ i, i < Qs.length → ndF Q3 i = ndF Qs i := fun i hi => by rw [eM, ndF_a hi]
                    have g32 := f3.1 32 (by decide)
                    have q9 := ih (m - 1) (by omega) (e + 1) Qs.length z3 Q3 (by omega) (by omega) (frF_t f2 f3 (by decide) (by decide)) hq3 ha3 (fun i hi => by
                      by_cases il : i < Qs.length
                      · refine ⟨fun _ => ?_, fun _ => il⟩
                        rw [hnd i il]
                        obtain ⟨n, n1, n2⟩ := (ha _).mp (ndF_m il)
                        exact ⟨n, by omega, n2⟩
                      · refine ⟨fun h => absurd h il, fun ⟨n, n1, n2⟩ => ?_⟩
                        exact absurd ((ha _).mpr ⟨n, by omega, n2⟩) (hnew i (by omega) hi)) hce hl3 (by omega) (fun j hj hj11 => by
                      obtain ⟨b1, b2⟩ := hst2 j (by omega) hj11
                      rw [g32]
                      refine ⟨by omega, fun i hi => ?_⟩
                      by_cases il : i < Qs.length
                      · rw [hnd i il]; exact b2 i il
                      · refine ⟨fun h => by omega, fun ⟨n, n1, n2⟩ => ?_⟩
                        exact absurd ((ha _).mpr ⟨n, by omega, n2⟩) (hnew i (by omega) hi))
                    refine hc 20 _ _ _ fun _ _ => ?_
                    simp only [pvSt1]
                    simp only [pvE_aload_n0, pvLA_s, pvLd, pvE_invokevirtual, pvC1_s, pvC2_s, pvAf_v, pvAf_x, pvPop, pvCs, pvCat, pvPush, aX5_shortest_45, pvSh_0, pvSh_1, pvSh_2, pvSh_3, pvSh_4, pvSh_5, pvSh_6, pvSh_7, pvSh_8, pvSh_9, pvSh_10, pvSh_11, pvSh_12, pvSh_13, pvSh_14, pvSh_15, pvSh_16, pvSh_17, pvSh_18, pvSh_19, pvSh_20, pvSh_21, pvSh_22, pvSh_23, pvSh_24, pvSh_25, pvSh_26, pvSh_27, pvSh_28, pvSh_29, pvSh_30, pvSh_31, pvSh_32, pvSh_33, pvSh_34, pvSh_35, pvSh_36, pvSh_37, pvSh_38, pvE_sipush, pvE_aload_n1, pvE_getfield, pvGf_0, pvGf_1, pvGf_2, fX5_50, pvRf_0_0, pvRf_0_1, pvRf_0_2, pvRf_0_3, pvRf_0_4, pvRf_0_5, pvRf_0_6, pvRf_0_7, pvRf_0_8, pvRf_0_9, pvRf_0_10, pvRf_1_0, pvRf_3_0, pvRf_5_0, pvRf_5_1, pvRf_5_2, pvRf_9_0, pvRf_9_1, pvRf_9_2, pvRf_13_0, pvRf_13_1, pvRf_13_2, pvRf_17_0, pvRf_17_2, pvRf_20_0, pvRf_20_1, pvRf_20_2, pvRf_24_0, pvRf_24_1, pvRf_24_2, pvRf_28_0, pvRf_28_1, pvRf_28_2, pvRf_28_3, pvRf_33_0, pvRf_33_1, pvRf_36_0, pvRf_36_1, pvE_aload_n2, aX5_shortest_55, pvE_iconst, pvE_istore, pvS1, List.length_cons, List.length_nil, pvClr_i, pvClr_r, pvClr_l, pvClr_d, pvClr_f, pvClr_n, pvE_iload, pvLI_s, pvE_iload_n3, pvE_icmp_gt, fX5_24, pvE_icmp_ge, aX5_shortest_59, pvE_iadd, aX5_shortest_63, pvE_if_eq, pvE_ireturn, aX5_shortest_67, aX5_shortest_71, pvE_iinc, pvIc_s, pvE_goto, bX5_shortest_0, uX5_shortest_0, bX5_shortest_25, uX5_shortest_25, bX5_shortest_80, uX5_shortest_80, bX5_shortest_84, uX5_shortest_84, bX5_shortest_115, uX5_shortest_115, bX5_shortest_125, uX5_shortest_125, pvMk_t, pvMk_f, pvMk_n, pvRtG, pvRecv_r, pvUp_nl, pvUp_same, pvUp_ap, pvSt_ap, pvX_c, pvX_ms, pvX_mn, pvE_nil, pvEn_i, pvEn_r, pvEn_l, pvEn_0, pvEn_s, pvRt, pvRv, pvTh, pvKc, pvGo, pvTgt, Int.toNat_natCast, false_and, and_false, true_and, and_true, if_true, if_false, reduceIte, reduceCtorEq, forall_const, false_or, or_false, true_or, or_true, ne_eq, not_true_eq_false, not_false_eq_true, implies_true, false_implies, Nat.reduceAdd, Nat.reduceSub, Nat.reduceMul, Nat.reduceEqDiff, Nat.reduceLT, Nat.reduceLeDiff, Int.reduceAdd, Int.reduceSub, Int.reduceMul, Int.reduceNeg, Int.reduceToNat, Int.reduceLE, Int.reduceLT, Int.reduceEq, Int.reduceNe, and_self]
                    (repeat' first | with_reducible apply And.intro | with_reducible intro _)
                    all_goals first
                      | omega
                      | exact q9
                  · have hkQ : ndF Q3 k = ndF Qs k := by rw [eM, ndF_a (by omega)]
                    have hl3 : Qs.length ≤ Q3.length := by rw [eM, List.length_append]; omega
                    have hl3' := qu_len hq3.2.2.2.1 hq3.2.2.2.2
                    have ek := hq3.2.1 k (by omega)
                    rw [hkQ] at ek
                    have hokk := hq'.2.2.2.2 _ (ndF_m (L := Qs) (i := k) (by omega))
                    have hA3 := psS_m hA2 f3 (by simp)
                    have hB3 := psS_m hB2 f3 (by simp)
                    refine hc 20 _ _ _ fun _ _ => ?_
                    simp only [pvSt1]
                    simp only [C_X5_configurationAt, C_X5_expand, ek, pvE_aload_n0, pvLA_s, pvLd, pvE_invokevirtual, pvC1_s, pvC2_s, pvAf_v, pvAf_x, pvPop, pvCs, pvCat, pvPush, aX5_shortest_45, pvSh_0, pvSh_1, pvSh_2, pvSh_3, pvSh_4, pvSh_5, pvSh_6, pvSh_7, pvSh_8, pvSh_9, pvSh_10, pvSh_11, pvSh_12, pvSh_13, pvSh_14, pvSh_15, pvSh_16, pvSh_17, pvSh_18, pvSh_19, pvSh_20, pvSh_21, pvSh_22, pvSh_23, pvSh_24, pvSh_25, pvSh_26, pvSh_27, pvSh_28, pvSh_29, pvSh_30, pvSh_31, pvSh_32, pvSh_33, pvSh_34, pvSh_35, pvSh_36, pvSh_37, pvSh_38, pvE_sipush, pvE_aload_n1, pvE_getfield, pvGf_0, pvGf_1, pvGf_2, fX5_50, pvRf_0_0, pvRf_0_1, pvRf_0_2, pvRf_0_3, pvRf_0_4, pvRf_0_5, pvRf_0_6, pvRf_0_7, pvRf_0_8, pvRf_0_9, pvRf_0_10, pvRf_1_0, pvRf_3_0, pvRf_5_0, pvRf_5_1, pvRf_5_2, pvRf_9_0, pvRf_9_1, pvRf_9_2, pvRf_13_0, pvRf_13_1, pvRf_13_2, pvRf_17_0, pvRf_17_2, pvRf_20_0, pvRf_20_1, pvRf_20_2, pvRf_24_0, pvRf_24_1, pvRf_24_2, pvRf_28_0, pvRf_28_1, pvRf_28_2, pvRf_28_3, pvRf_33_0, pvRf_33_1, pvRf_36_0, pvRf_36_1, pvE_aload_n2, aX5_shortest_55, pvE_iconst, pvE_istore, pvS1, List.length_cons, List.length_nil, pvClr_i, pvClr_r, pvClr_l, pvClr_d, pvClr_f, pvClr_n, pvE_iload, pvLI_s, pvE_iload_n3, pvE_icmp_gt, fX5_24, pvE_icmp_ge, aX5_shortest_59, pvE_iadd, aX5_shortest_63, pvE_if_eq, pvE_ireturn, aX5_shortest_67, aX5_shortest_71, pvE_iinc, pvIc_s, pvE_goto, bX5_shortest_0, uX5_shortest_0, bX5_shortest_25, uX5_shortest_25, bX5_shortest_80, uX5_shortest_80, bX5_shortest_84, uX5_shortest_84, bX5_shortest_115, uX5_shortest_115, bX5_shortest_125, uX5_shortest_125, pvMk_t, pvMk_f, pvMk_n, pvRtG, pvRecv_r, pvUp_nl, pvUp_same, pvUp_ap, pvSt_ap, pvX_c, pvX_ms, pvX_mn, pvE_nil, pvEn_i, pvEn_r, pvEn_l, pvEn_0, pvEn_s, pvRt, pvRv, pvTh, pvKc, pvGo, pvTgt, Int.toNat_natCast, false_and, and_false, true_and, and_true, if_true, if_false, reduceIte, reduceCtorEq, forall_const, false_or, or_false, true_or, or_true, ne_eq, not_true_eq_false, not_false_eq_true, implies_true, false_implies, Nat.reduceAdd, Nat.reduceSub, Nat.reduceMul, Nat.reduceEqDiff, Nat.reduceLT, Nat.reduceLeDiff, Int.reduceAdd, Int.reduceSub, Int.reduceMul, Int.reduceNeg, Int.reduceToNat, Int.reduceLE, Int.reduceLT, Int.reduceEq, Int.reduceNe, and_self]
                    (repeat' first | with_reducible apply And.intro | with_reducible intro _)
                    all_goals first
                      | omega
                      | skip
                    all_goals
                      refine ⟨A, B, Q3, ⟨hq3, hA3, hB3, hokk⟩, fun z4 Q4 f4 hq4 hM4 hX4 => ?_⟩
                      obtain ⟨M4, eM4⟩ := hM4
                      have q9 := ihk (mk - 1) (by omega) (k + 1) z4 Q4 (by omega) (by omega) (frF_t f3 f4 (fun _ h => h) (fun _ h => h)) hq4 ⟨M ++ M4, by rw [eM4, eM, List.append_assoc]⟩ (fun x => by
                        rw [hX4 x, hX x, or_assoc]
                        refine or_congr Iff.rfl ?_
                        constructor
                        · rintro (⟨i, a, d, i1, h9⟩ | ⟨a, d, h9⟩)
                          · exact ⟨i, a, d, by omega, h9⟩
                          · exact ⟨k, a, d, by omega, h9⟩
                        · rintro ⟨i, a, d, i1, h9⟩
                          by_cases ei : i = k
                          · subst ei; exact Or.inr ⟨a, d, h9⟩
                          · exact Or.inl ⟨i, a, d, by omega, h9⟩)
                      first
                        | exact q9
                        | exact ⟨by omega, q9⟩
              exact loop (Qs.length - f) f z2 Qs (by omega) (Nat.le_refl _) frF_0 hq2 ⟨[], (List.append_nil _).symm⟩ (fun x => ⟨Or.inl, fun h => h.elim id fun ⟨i, _, _, i1, _⟩ => by omega⟩)
            · have hmo10 : mo = 10 := by
                rcases hmo with h | h
                · exact h
                · omega
              have hdn := done z2 Qs ((e : Int) + 1) (Qs.length : Int) f2 hq2 (Or.inl (by omega)) (fun n hn c hr hg => hce n (by have := hn hmo10; omega) c hr hg)
              have skipL : ∀ (mk k : Nat), k + mk = Qs.length → SW 84 [some (vR 28), some (vR p), some (vR q), some (vI mo), none, some (vI (e : Int)), some (vI (Qs.length : Int)), some (vI (k : Int))] z2 := by
                intro mk
                induction mk using Nat.strongRecOn with
                | _ mk ihk =>
                  intro k hk
                  refine hc 20 _ _ _ fun _ _ => ?_
                  simp only [pvSt1]
                  simp only [pvE_aload_n0, pvLA_s, pvLd, pvE_invokevirtual, pvC1_s, pvC2_s, pvAf_v, pvAf_x, pvPop, pvCs, pvCat, pvPush, aX5_shortest_45, pvSh_0, pvSh_1, pvSh_2, pvSh_3, pvSh_4, pvSh_5, pvSh_6, pvSh_7, pvSh_8, pvSh_9, pvSh_10, pvSh_11, pvSh_12, pvSh_13, pvSh_14, pvSh_15, pvSh_16, pvSh_17, pvSh_18, pvSh_19, pvSh_20, pvSh_21, pvSh_22, pvSh_23, pvSh_24, pvSh_25, pvSh_26, pvSh_27, pvSh_28, pvSh_29, pvSh_30, pvSh_31, pvSh_32, pvSh_33, pvSh_34, pvSh_35, pvSh_36, pvSh_37, pvSh_38, pvE_sipush, pvE_aload_n1, pvE_getfield, pvGf_0, pvGf_1, pvGf_2, fX5_50, pvRf_0_0, pvRf_0_1, pvRf_0_2, pvRf_0_3, pvRf_0_4, pvRf_0_5, pvRf_0_6, pvRf_0_7, pvRf_0_8, pvRf_0_9, pvRf_0_10, pvRf_1_0, pvRf_3_0, pvRf_5_0, pvRf_5_1, pvRf_5_2, pvRf_9_0, pvRf_9_1, pvRf_9_2, pvRf_13_0, pvRf_13_1, pvRf_13_2, pvRf_17_0, pvRf_17_2, pvRf_20_0, pvRf_20_1, pvRf_20_2, pvRf_24_0, pvRf_24_1, pvRf_24_2, pvRf_28_0, pvRf_28_1, pvRf_28_2, pvRf_28_3, pvRf_33_0, pvRf_33_1, pvRf_36_0, pvRf_36_1, pvE_aload_n2, aX5_shortest_55, pvE_iconst, pvE_istore, pvS1, List.length_cons, List.length_nil, pvClr_i, pvClr_r, pvClr_l, pvClr_d, pvClr_f, pvClr_n, pvE_iload, pvLI_s, pvE_iload_n3, pvE_icmp_gt, fX5_24, pvE_icmp_ge, aX5_shortest_59, pvE_iadd, aX5_shortest_63, pvE_if_eq, pvE_ireturn, aX5_shortest_67, aX5_shortest_71, pvE_iinc, pvIc_s, pvE_goto, bX5_shortest_0, uX5_shortest_0, bX5_shortest_25, uX5_shortest_25, bX5_shortest_80, uX5_shortest_80, bX5_shortest_84, uX5_shortest_84, bX5_shortest_115, uX5_shortest_115, bX5_shortest_125, uX5_shortest_125, pvMk_t, pvMk_f, pvMk_n, pvRtG, pvRecv_r, pvUp_nl, pvUp_same, pvUp_ap, pvSt_ap, pvX_c, pvX_ms, pvX_mn, pvE_nil, pvEn_i, pvEn_r, pvEn_l, pvEn_0, pvEn_s, pvRt, pvRv, pvTh, pvKc, pvGo, pvTgt, Int.toNat_natCast, false_and, and_false, true_and, and_true, if_true, if_false, reduceIte, reduceCtorEq, forall_const, false_or, or_false, true_or, or_true, ne_eq, not_true_eq_false, not_false_eq_true, implies_true, false_implies, Nat.reduceAdd, Nat.reduceSub, Nat.reduceMul, Nat.reduceEqDiff, Nat.reduceLT, Nat.reduceLeDiff, Int.reduceAdd, Int.reduceSub, Int.reduceMul, Int.reduceNeg, Int.reduceToNat, Int.reduceLE, Int.reduceLT, Int.reduceEq, Int.reduceNe, and_self]
                  by_cases hkl : Qs.length ≤ k
                  · (repeat' first | with_reducible apply And.intro | with_reducible intro _)
                    all_goals first
                      | omega
                      | exact hdn
                  · have q9 := ihk (mk - 1) (by omega) (k + 1) (by omega)
                    (repeat' first | with_reducible apply And.intro | with_reducible intro _)
                    all_goals first
                      | omega
                      | exact q9
              exact skipL (Qs.length - f) f (by omega)
          refine hc 20 _ _ _ fun _ _ => ?_
          simp only [pvSt1]
          simp only [C_X5_putStart, C_X5_hasGoal, e4, pvE_aload_n0, pvLA_s, pvLd, pvE_invokevirtual, pvC1_s, pvC2_s, pvAf_v, pvAf_x, pvPop, pvCs, pvCat, pvPush, aX5_shortest_45, pvSh_0, pvSh_1, pvSh_2, pvSh_3, pvSh_4, pvSh_5, pvSh_6, pvSh_7, pvSh_8, pvSh_9, pvSh_10, pvSh_11, pvSh_12, pvSh_13, pvSh_14, pvSh_15, pvSh_16, pvSh_17, pvSh_18, pvSh_19, pvSh_20, pvSh_21, pvSh_22, pvSh_23, pvSh_24, pvSh_25, pvSh_26, pvSh_27, pvSh_28, pvSh_29, pvSh_30, pvSh_31, pvSh_32, pvSh_33, pvSh_34, pvSh_35, pvSh_36, pvSh_37, pvSh_38, pvE_sipush, pvE_aload_n1, pvE_getfield, pvGf_0, pvGf_1, pvGf_2, fX5_50, pvRf_0_0, pvRf_0_1, pvRf_0_2, pvRf_0_3, pvRf_0_4, pvRf_0_5, pvRf_0_6, pvRf_0_7, pvRf_0_8, pvRf_0_9, pvRf_0_10, pvRf_1_0, pvRf_3_0, pvRf_5_0, pvRf_5_1, pvRf_5_2, pvRf_9_0, pvRf_9_1, pvRf_9_2, pvRf_13_0, pvRf_13_1, pvRf_13_2, pvRf_17_0, pvRf_17_2, pvRf_20_0, pvRf_20_1, pvRf_20_2, pvRf_24_0, pvRf_24_1, pvRf_24_2, pvRf_28_0, pvRf_28_1, pvRf_28_2, pvRf_28_3, pvRf_33_0, pvRf_33_1, pvRf_36_0, pvRf_36_1, pvE_aload_n2, aX5_shortest_55, pvE_iconst, pvE_istore, pvS1, List.length_cons, List.length_nil, pvClr_i, pvClr_r, pvClr_l, pvClr_d, pvClr_f, pvClr_n, pvE_iload, pvLI_s, pvE_iload_n3, pvE_icmp_gt, fX5_24, pvE_icmp_ge, aX5_shortest_59, pvE_iadd, aX5_shortest_63, pvE_if_eq, pvE_ireturn, aX5_shortest_67, aX5_shortest_71, pvE_iinc, pvIc_s, pvE_goto, bX5_shortest_0, uX5_shortest_0, bX5_shortest_25, uX5_shortest_25, bX5_shortest_80, uX5_shortest_80, bX5_shortest_84, uX5_shortest_84, bX5_shortest_115, uX5_shortest_115, bX5_shortest_125, uX5_shortest_125, pvMk_t, pvMk_f, pvMk_n, pvRtG, pvRecv_r, pvUp_nl, pvUp_same, pvUp_ap, pvSt_ap, pvX_c, pvX_ms, pvX_mn, pvE_nil, pvEn_i, pvEn_r, pvEn_l, pvEn_0, pvEn_s, pvRt, pvRv, pvTh, pvKc, pvGo, pvTgt, Int.toNat_natCast, false_and, and_false, true_and, and_true, if_true, if_false, reduceIte, reduceCtorEq, forall_const, false_or, or_false, true_or, or_true, ne_eq, not_true_eq_false, not_false_eq_true, implies_true, false_implies, Nat.reduceAdd, Nat.reduceSub, Nat.reduceMul, Nat.reduceEqDiff, Nat.reduceLT, Nat.reduceLeDiff, Int.reduceAdd, Int.reduceSub, Int.reduceMul, Int.reduceNeg, Int.reduceToNat, Int.reduceLE, Int.reduceLT, Int.reduceEq, Int.reduceNe, and_self]
          have q28 : ∀ (k : Nat) (v : Int) (j : Nat), pvUp z'.1 32 k v 28 j = z'.1 28 j := fun k v j => by rw [pvUp_ne (by decide)]
          have n1 : ((e : Int) + 1).toNat = e + 1 := by omega
          (repeat' first | with_reducible apply And.intro | with_reducible intro _)
          all_goals first
            | omega
            | (exfalso; omega)
            | skip
          all_goals
            try simp only [Int.toNat_natCast, n1, pvUp_nl, ne_eq, Nat.reduceEqDiff, not_false_eq_true, e4]
            have ez3 := ez2
            first
              | rw [if_pos (by omega), if_pos (by omega)] at ez3
              | rw [if_neg (by omega), if_pos (by omega)] at ez3
              | rw [if_neg (by omega), if_neg (by omega)] at ez3
            first
              | rw [← ez3]
              | (have ez4 : z2 = z' := ez3
                 rw [← ez4])
            refine ⟨A, B, Qs, ⟨hq2, hA2, hB2, by omega, by omega, by omega⟩, fun hg => ?_, fun hg => ?_⟩
            · first
                | exact goal hg
                | exact ⟨by omega, goal hg⟩
            · first
                | exact nogoal hg
                | exact ⟨by omega, nogoal hg⟩
    refine hc 20 _ _ _ fun _ _ => ?_
    simp only [pvSt1]
    simp only [C_X5_forget, C_X5_enter, hshp, hshq, pvE_aload_n0, pvLA_s, pvLd, pvE_invokevirtual, pvC1_s, pvC2_s, pvAf_v, pvAf_x, pvPop, pvCs, pvCat, pvPush, aX5_shortest_45, pvSh_0, pvSh_1, pvSh_2, pvSh_3, pvSh_4, pvSh_5, pvSh_6, pvSh_7, pvSh_8, pvSh_9, pvSh_10, pvSh_11, pvSh_12, pvSh_13, pvSh_14, pvSh_15, pvSh_16, pvSh_17, pvSh_18, pvSh_19, pvSh_20, pvSh_21, pvSh_22, pvSh_23, pvSh_24, pvSh_25, pvSh_26, pvSh_27, pvSh_28, pvSh_29, pvSh_30, pvSh_31, pvSh_32, pvSh_33, pvSh_34, pvSh_35, pvSh_36, pvSh_37, pvSh_38, pvE_sipush, pvE_aload_n1, pvE_getfield, pvGf_0, pvGf_1, pvGf_2, fX5_50, pvRf_0_0, pvRf_0_1, pvRf_0_2, pvRf_0_3, pvRf_0_4, pvRf_0_5, pvRf_0_6, pvRf_0_7, pvRf_0_8, pvRf_0_9, pvRf_0_10, pvRf_1_0, pvRf_3_0, pvRf_5_0, pvRf_5_1, pvRf_5_2, pvRf_9_0, pvRf_9_1, pvRf_9_2, pvRf_13_0, pvRf_13_1, pvRf_13_2, pvRf_17_0, pvRf_17_2, pvRf_20_0, pvRf_20_1, pvRf_20_2, pvRf_24_0, pvRf_24_1, pvRf_24_2, pvRf_28_0, pvRf_28_1, pvRf_28_2, pvRf_28_3, pvRf_33_0, pvRf_33_1, pvRf_36_0, pvRf_36_1, pvE_aload_n2, aX5_shortest_55, pvE_iconst, pvE_istore, pvS1, List.length_cons, List.length_nil, pvClr_i, pvClr_r, pvClr_l, pvClr_d, pvClr_f, pvClr_n, pvE_iload, pvLI_s, pvE_iload_n3, pvE_icmp_gt, fX5_24, pvE_icmp_ge, aX5_shortest_59, pvE_iadd, aX5_shortest_63, pvE_if_eq, pvE_ireturn, aX5_shortest_67, aX5_shortest_71, pvE_iinc, pvIc_s, pvE_goto, bX5_shortest_0, uX5_shortest_0, bX5_shortest_25, uX5_shortest_25, bX5_shortest_80, uX5_shortest_80, bX5_shortest_84, uX5_shortest_84, bX5_shortest_115, uX5_shortest_115, bX5_shortest_125, uX5_shortest_125, pvMk_t, pvMk_f, pvMk_n, pvRtG, pvRecv_r, pvUp_nl, pvUp_same, pvUp_ap, pvSt_ap, pvX_c, pvX_ms, pvX_mn, pvE_nil, pvEn_i, pvEn_r, pvEn_l, pvEn_0, pvEn_s, pvRt, pvRv, pvTh, pvKc, pvGo, pvTgt, Int.toNat_natCast, false_and, and_false, true_and, and_true, if_true, if_false, reduceIte, reduceCtorEq, forall_const, false_or, or_false, true_or, or_true, ne_eq, not_true_eq_false, not_false_eq_true, implies_true, false_implies, Nat.reduceAdd, Nat.reduceSub, Nat.reduceMul, Nat.reduceEqDiff, Nat.reduceLT, Nat.reduceLeDiff, Int.reduceAdd, Int.reduceSub, Int.reduceMul, Int.reduceNeg, Int.reduceToNat, Int.reduceLE, Int.reduceLT, Int.reduceEq, Int.reduceNe, and_self]
    (repeat' first | with_reducible apply And.intro | with_reducible intro _)
    all_goals first
      | omega
      | skip
    all_goals
      refine ⟨Q0, hq0, fun z1 f1 q1 => ?_⟩
      have hA1 := psS_m hA f1 (by simp)
      have hB1 := psS_m hB f1 (by simp)
      rw [hA1.2.2.1, hB1.2.2.1]
      have wA1 := wA.2.1
      have wB1 := wB.2.1
      (repeat' first | with_reducible apply And.intro | with_reducible intro _)
      all_goals first
        | omega
        | skip
      all_goals
        refine ⟨[], ⟨q1, ⟨by decide, Or.inr (Or.inr (Or.inr rfl))⟩, wA1, wB1⟩, fun z2 f2 q2 => ?_⟩
        have e0 : insF [] (55040 + 16 * A.2.1 + B.2.1) = [c0F A B] := by unfold insF; rw [if_neg List.not_mem_nil]; rfl
        rw [e0] at q2
        have q9 := head 23552 0 0 z2 [c0F A B] rfl (by omega) (frF_t (frF_t frF_0 f1 (by decide) (by decide)) f2 (by decide) (by decide)) q2 (fun c => by
          rw [List.mem_singleton]
          constructor
          · intro h; exact ⟨0, Nat.le_refl _, h⟩
          · rintro ⟨n, n1, n2⟩
            obtain rfl : n = 0 := by omega
            exact n2) (fun i _ => ⟨fun h => absurd h (Nat.not_lt_zero _), fun ⟨n, n1, _⟩ => absurd n1 (Nat.not_lt_zero _)⟩) (fun n hn => absurd hn (Nat.not_lt_zero _)) (by simp) (Nat.le_refl _) (fun j hj => absurd hj (Nat.not_lt_zero _))
        first
          | exact q9
          | exact ⟨by omega, q9⟩
          | exact ⟨by omega, by omega, q9⟩
  · exact h.elim
def C_X5_findsAny : pvC
  | [.inr (.inr (.inl id)), .inr (.inr (.inl p)), .inr (.inr (.inl q))], z, Q => id = 28 ∧ ∃ (A B : Aut) (Q0 : List Int), (quF z Q0 ∧ psS z p A ∧ psS z q B) ∧
      ∀ (z' : pvM) (Qs : List Int), frF [28, 29, 30, 32] [] z z' → quF z' Qs → ((∃ F, fdF A B F) → Q (.inl (some (vI 1))) z') ∧ ((¬ ∃ F, fdF A B F) → Q (.inl (some (vI 0))) z')
  | _, _, _ => False
def bX5_findsAny : Nat → List (Instr × Nat)
  | 0 => [(.aload_n 0, 1), (.aload_n 1, 1), (.aload_n 2, 1), (.sipush 23552, 3), (.invokevirtual 28, 3), (.iconst (-1), 1), (.if_icmp .eq 7, 3), (.iconst 1, 1), (.goto 4, 3)]
  | 17 => [(.iconst 0, 1)]
  | 18 => [(.ireturn, 1)]
  | _ => []
def uX5_findsAny : Nat → Option (List Bool)
  | _ => none
def aX5_findsAny : pvCa
  | 28 => some (4, false, 5, 0, C_X5_shortest)
  | _ => none
theorem bX5_findsAny_0 : bX5_findsAny 0 = [(.aload_n 0, 1), (.aload_n 1, 1), (.aload_n 2, 1), (.sipush 23552, 3), (.invokevirtual 28, 3), (.iconst (-1), 1), (.if_icmp .eq 7, 3), (.iconst 1, 1), (.goto 4, 3)] := rfl
theorem uX5_findsAny_0 : uX5_findsAny 0 = none := rfl
theorem bX5_findsAny_17 : bX5_findsAny 17 = [(.iconst 0, 1)] := rfl
theorem uX5_findsAny_17 : uX5_findsAny 17 = none := rfl
theorem bX5_findsAny_18 : bX5_findsAny 18 = [(.ireturn, 1)] := rfl
theorem uX5_findsAny_18 : uX5_findsAny 18 = none := rfl
theorem aX5_findsAny_28 : aX5_findsAny 28 = some (4, false, 5, 0, C_X5_shortest) := rfl
set_option maxRecDepth 100000 in
set_option maxHeartbeats 4000000 in
theorem okX5_findsAny : pvOkM fX5 aX5_findsAny kX5 eX5 (some .boolean) bX5_findsAny uX5_findsAny 3 C_X5_findsAny := by
  intro Q SW hc as z h hS hz
  unfold C_X5_findsAny at h
  split at h
  · rename_i id p q
    obtain ⟨rfl, A, B, Q0, ⟨hq0, hA, hB⟩, h2⟩ := h
    have hid1 := hA.1
    have hid2 := hB.1
    refine ⟨Nat.le_of_ble_eq_true rfl, hc 20 _ _ _ fun _ _ => ?_⟩
    clear hc hS hz
    simp only [pvSt1]
    simp only [C_X5_shortest, pvE_aload_n0, pvLA_s, pvLd, pvE_aload_n1, pvE_aload_n2, pvE_sipush, pvE_invokevirtual, pvC1_s, pvC2_s, pvAf_v, pvAf_x, pvPop, pvCs, pvCat, pvPush, aX5_findsAny_28, pvSh_0, pvSh_1, pvSh_2, pvSh_3, pvSh_4, pvSh_5, pvSh_6, pvSh_7, pvSh_8, pvSh_9, pvSh_10, pvSh_11, pvSh_12, pvSh_13, pvSh_14, pvSh_15, pvSh_16, pvSh_17, pvSh_18, pvSh_19, pvSh_20, pvSh_21, pvSh_22, pvSh_23, pvSh_24, pvSh_25, pvSh_26, pvSh_27, pvSh_28, pvSh_29, pvSh_30, pvSh_31, pvSh_32, pvSh_33, pvSh_34, pvSh_35, pvSh_36, pvSh_37, pvSh_38, pvE_iconst, pvE_icmp_eq, pvE_goto, pvE_ireturn, bX5_findsAny_0, uX5_findsAny_0, bX5_findsAny_17, uX5_findsAny_17, bX5_findsAny_18, uX5_findsAny_18, pvRtG, pvRecv_r, pvUp_nl, pvUp_same, pvUp_ap, pvSt_ap, pvX_c, pvX_ms, pvX_mn, pvE_nil, pvEn_i, pvEn_r, pvEn_l, pvEn_0, pvEn_s, pvRt, pvRv, pvTh, pvKc, pvGo, pvTgt, Int.toNat_natCast, false_and, and_false, true_and, and_true, if_true, if_false, reduceIte, reduceCtorEq, forall_const, false_or, or_false, true_or, or_true, ne_eq, not_true_eq_false, not_false_eq_true, implies_true, false_implies, Nat.reduceAdd, Nat.reduceSub, Nat.reduceMul, Nat.reduceEqDiff, Nat.reduceLT, Nat.reduceLeDiff, Int.reduceAdd, Int.reduceSub, Int.reduceMul, Int.reduceNeg, Int.reduceToNat, Int.reduceLE, Int.reduceLT, Int.reduceEq, Int.reduceNe, and_self]
    (repeat' first | with_reducible apply And.intro | with_reducible intro _)
    all_goals first
      | omega
      | skip
    all_goals
      refine ⟨A, B, Q0, ⟨hq0, hA, hB⟩, fun z1 Qs f1 q1 => ?_⟩
      obtain ⟨h3, h4⟩ := h2 z1 Qs f1 q1
      refine ⟨fun hno => ?_, fun F hF hF5 _ _ => ?_⟩
      · have q9 := h4 (fun ⟨F, hF⟩ => by
          obtain ⟨c, c1, c2⟩ := hF.1
          exact hno F c c1 c2)
        (repeat' first | with_reducible apply And.intro | with_reducible intro _)
        all_goals first
          | omega
          | contradiction
          | exact q9
      · have q9 := h3 ⟨F, hF⟩
        (repeat' first | with_reducible apply And.intro | with_reducible intro _)
        all_goals first
          | omega
          | contradiction
          | exact q9
  · exact h.elim

