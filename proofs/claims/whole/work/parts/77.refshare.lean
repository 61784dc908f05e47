/-! accepted shares and average branches: the reference -/
def fkD (x : FP.Core.Datum) : Bool := match x with
  | .fin _ d _ => d != 0
  | _ => false
theorem fkD_t {x : FP.Core.Datum} (h : fkD x = true) : ∃ t d r, x = .fin t d r ∧ d ≠ 0 := by
  cases x with
  | nan => exact absurd h (by decide)
  | inf s => exact absurd h Bool.false_ne_true
  | fin t d r => exact ⟨t, d, r, rfl, by simpa [fkD] using h⟩
theorem po_b : ∀ k : Fin 11, fkD (FP.Core.decode FP.Core.b64 (FP.l2d (Int64.ofInt (15 ^ k.val))).toNat) = true := by decide +kernel
theorem th_b : ∀ k : Fin 100, fkD (FP.Core.decode FP.Core.b32 (FP.i2f (Int32.ofInt ((k.val : Int) + 1))).toNat) = true := by decide +kernel
/-- the share: accepted words of all of that length -/
def shD (n : Int) (e : Nat) : UInt64 := FP.ddiv (FP.l2d (Int64.ofInt n)) (FP.l2d (Int64.ofInt (15 ^ e)))
theorem shD_n {n : Int} {e : Nat} (he : e ≤ 10) : vf_n64 (shD n e) := by
  obtain ⟨t, d, r, h1, h2⟩ := fkD_t (po_b ⟨e, by omega⟩)
  exact ddiv_n (l2d_n _) h1 h2
/-- the average: branches of so many sets and letters -/
def avD (n k : Int) : UInt32 := FP.fdiv (FP.i2f (Int32.ofInt n)) (FP.i2f (Int32.ofInt k))
theorem avD_n {n k : Int} (hk : 1 ≤ k ∧ k ≤ 100) : vf_n32 (avD n k) := by
  obtain ⟨t, d, r, h1, h2⟩ := fkD_t (th_b ⟨(k - 1).toNat, by omega⟩)
  rw [show (((k - 1).toNat : Nat) : Int) + 1 = k by omega] at h1
  exact fdiv_n (i2f_n _) h1 h2
def C_X10_acceptedShare : pvC
  | [.inr (.inr (.inl id)), .inl s, .inl e], z, Q => id = 39 ∧ ((∀ s' : Int, 0 ≤ s' ∧ s' ≤ 1 → WfA (autR (z.1 40) s')) ∧ smP z) ∧
      (¬ (0 ≤ s ∧ s ≤ 1) → Q (.inl (some (vD 0))) (pvUp z.1 39 8 1, z.2)) ∧
      (0 ≤ s ∧ s ≤ 1 → ¬ (0 ≤ e ∧ e ≤ 10) → Q (.inl (some (vD 0))) (pvUp z.1 39 8 2, z.2)) ∧
      (0 ≤ s ∧ s ≤ 1 → 0 ≤ e ∧ e ≤ 10 → ∀ z' : pvM, frF [39, 48] [56, 57] z z' → (∀ j, j ≠ 28 → j ≠ 8 → z'.1 39 j = z.1 39 j) → z'.1 39 8 = 0 → Q (.inl (some (vD (shD (wdF (autR (z.1 40) s) 5 e.toNat (3440 + (autR (z.1 40) s).2.1)) e.toNat)))) z')
  | _, _, _ => False
def bX10_acceptedShare : Nat → List (Instr × Nat)
  | 0 => [(.aload_n 0, 1), (.iload_n 1, 1), (.invokestatic 80, 3), (.ifCond .ne 7, 3), (.iconst 1, 1), (.goto 18, 3)]
  | 12 => [(.iload_n 2, 1), (.iconst 0, 1), (.bipush 10, 2), (.invokestatic 76, 3), (.ifCond .eq 7, 3), (.iconst 0, 1), (.goto 4, 3)]
  | 26 => [(.iconst 2, 1)]
  | 27 => [(.putfield 73, 3)]
  | 30 => [(.aload_n 0, 1), (.getfield 73, 3), (.ifCond .le 5, 3), (.dconst 0, 1), (.dreturn, 1)]
  | 39 => [(.lconst 1, 1), (.lstore_n 3, 1), (.iconst 0, 1), (.istore 5, 2)]
  | 44 => [(.iload 5, 2), (.iload_n 2, 1), (.if_icmp .ge 15, 3), (.lload_n 3, 1), (.ldc2_w 265, 3), (.lmul, 1), (.lstore_n 3, 1), (.iinc 5 1, 3), (.goto (-15), 3)]
  | 62 => [(.aload_n 0, 1), (.iload_n 1, 1), (.iload_n 2, 1), (.iconst 4, 1), (.invokevirtual 261, 3), (.l2d, 1), (.lload_n 3, 1), (.l2d, 1), (.ddiv, 1), (.dreturn, 1)]
  | _ => []
def uX10_acceptedShare : Nat → Option (List Bool)
  | 30 => some [true, true, true, false, false, false]
  | 44 => some [true, true, true, true, false, true]
  | _ => none
def aX10_acceptedShare : pvCa
  | 76 => some (3, true, 0, 0, C_X10_in)
  | 80 => some (1, true, 0, 0, C_X10_isSlot)
  | 261 => some (4, false, 9, 0, C_X10_counts)
  | _ => none
theorem bX10_acceptedShare_0 : bX10_acceptedShare 0 = [(.aload_n 0, 1), (.iload_n 1, 1), (.invokestatic 80, 3), (.ifCond .ne 7, 3), (.iconst 1, 1), (.goto 18, 3)] := rfl
theorem uX10_acceptedShare_0 : uX10_acceptedShare 0 = none := rfl
theorem bX10_acceptedShare_12 : bX10_acceptedShare 12 = [(.iload_n 2, 1), (.iconst 0, 1), (.bipush 10, 2), (.invokestatic 76, 3), (.ifCond .eq 7, 3), (.iconst 0, 1), (.goto 4, 3)] := rfl
theorem uX10_acceptedShare_12 : uX10_acceptedShare 12 = none := rfl
theorem bX10_acceptedShare_26 : bX10_acceptedShare 26 = [(.iconst 2, 1)] := rfl
theorem uX10_acceptedShare_26 : uX10_acceptedShare 26 = none := rfl
theorem bX10_acceptedShare_27 : bX10_acceptedShare 27 = [(.putfield 73, 3)] := rfl
theorem uX10_acceptedShare_27 : uX10_acceptedShare 27 = none := rfl
theorem bX10_acceptedShare_30 : bX10_acceptedShare 30 = [(.aload_n 0, 1), (.getfield 73, 3), (.ifCond .le 5, 3), (.dconst 0, 1), (.dreturn, 1)] := rfl
theorem uX10_acceptedShare_30 : uX10_acceptedShare 30 = some [true, true, true, false, false, false] := rfl
theorem bX10_acceptedShare_39 : bX10_acceptedShare 39 = [(.lconst 1, 1), (.lstore_n 3, 1), (.iconst 0, 1), (.istore 5, 2)] := rfl
theorem uX10_acceptedShare_39 : uX10_acceptedShare 39 = none := rfl
theorem bX10_acceptedShare_44 : bX10_acceptedShare 44 = [(.iload 5, 2), (.iload_n 2, 1), (.if_icmp .ge 15, 3), (.lload_n 3, 1), (.ldc2_w 265, 3), (.lmul, 1), (.lstore_n 3, 1), (.iinc 5 1, 3), (.goto (-15), 3)] := rfl
theorem uX10_acceptedShare_44 : uX10_acceptedShare 44 = some [true, true, true, true, false, true] := rfl
theorem bX10_acceptedShare_62 : bX10_acceptedShare 62 = [(.aload_n 0, 1), (.iload_n 1, 1), (.iload_n 2, 1), (.iconst 4, 1), (.invokevirtual 261, 3), (.l2d, 1), (.lload_n 3, 1), (.l2d, 1), (.ddiv, 1), (.dreturn, 1)] := rfl
theorem uX10_acceptedShare_62 : uX10_acceptedShare 62 = none := rfl
theorem aX10_acceptedShare_76 : aX10_acceptedShare 76 = some (3, true, 0, 0, C_X10_in) := rfl
theorem aX10_acceptedShare_80 : aX10_acceptedShare 80 = some (1, true, 0, 0, C_X10_isSlot) := rfl
theorem aX10_acceptedShare_261 : aX10_acceptedShare 261 = some (4, false, 9, 0, C_X10_counts) := rfl
def mX10_acceptedShare : Room := { frames := 4, cells := 1, slots := 6, locals := 97 }
set_option maxRecDepth 100000 in
set_option maxHeartbeats 4000000 in
theorem okX10_acceptedShare : pvOkM fX10 aX10_acceptedShare kX10 eX10 (some .double) bX10_acceptedShare uX10_acceptedShare 6 C_X10_acceptedShare := by
  intro Q SW hc as z h hS hz
  unfold C_X10_acceptedShare at h
  split at h
  · rename_i id s e
    obtain ⟨rfl, ⟨hws, hsm⟩, h1, h2, h3⟩ := h
    refine ⟨Nat.le_of_ble_eq_true rfl, ?_⟩
    have loop : 0 ≤ s ∧ s ≤ 1 → 0 ≤ e ∧ e ≤ 10 → ∀ (m k : Nat) (w : Int), k + m = e.toNat → w = 15 ^ k → SW 44 [some (vR 39), some (vI s), some (vI e), some (vL w), none, some (vI (k : Int))] (pvUp z.1 39 8 0, z.2) := by
      intro hs he m
      induction m using Nat.strongRecOn with
      | _ m ih =>
        intro k w hk hw
        refine hc 20 _ _ _ fun _ _ => ?_
        simp only [pvSt1]
        have hsm' : smP (pvUp z.1 39 8 0, z.2) := by unfold smP; simp only [pvUp_nl, pvSt_ne, pvSt_eq, ne_eq, Nat.reduceEqDiff, not_false_eq_true]; exact hsm
        have e40 : (pvUp z.1 39 8 0) 40 = z.1 40 := pvUp_ne (by decide)
        by_cases hk2 : e.toNat ≤ k
        · have q9 := h3 hs he
          have ek : k = e.toNat := by omega
          subst ek
          have esh : ∀ n : Int, FP.ddiv (FP.l2d (Int64.ofInt n)) (FP.l2d (Int64.ofInt w)) = shD n e.toNat := fun n => by rw [hw]; rfl
          have hns : ∀ n : Int, vf_n64 (shD n e.toNat) := fun n => shD_n (by omega)
          simp only [C_X10_counts, e40, esh, pvE_aload_n0, pvLA_s, pvLd, pvE_iload_n1, pvLI_s, pvE_invokestatic (h0 := eX10_80), pvC1_s, pvC2_s, pvAf_v, pvAf_x, pvPop, pvCs, pvCat, pvPush, aX10_acceptedShare_80, pvE_if_ne, pvE_iconst, pvE_goto, pvE_iload_n2, pvE_bipush, pvE_invokestatic (h0 := eX10_76), aX10_acceptedShare_76, pvE_if_eq, pvE_putfield, pvPf_0, pvPf_1, fX10_73, pvSh_0, pvSh_1, pvSh_2, pvSh_3, pvSh_4, pvSh_5, pvSh_6, pvSh_7, pvSh_8, pvSh_9, pvSh_10, pvSh_11, pvSh_12, pvSh_13, pvSh_14, pvSh_15, pvSh_16, pvSh_17, pvSh_18, pvSh_19, pvSh_20, pvSh_21, pvSh_22, pvSh_23, pvSh_24, pvSh_25, pvSh_26, pvSh_27, pvSh_28, pvSh_29, pvSh_30, pvSh_31, pvSh_32, pvSh_33, pvSh_34, pvSh_35, pvSh_36, pvSh_37, pvSh_38, pvSh_39, pvSh_40, pvSh_41, pvSh_42, pvSh_43, pvSh_44, pvSh_45, pvSh_46, pvSh_47, pvSh_48, pvSh_49, pvSh_50, pvSh_51, pvSh_52, pvSh_53, pvSh_54, pvSh_55, pvSh_56, pvSh_57, pvSh_58, pvSh_59, pvE_getfield, pvGf_0, pvGf_1, pvGf_2, pvRf_0_0, pvRf_0_1, pvRf_0_2, pvRf_0_3, pvRf_0_4, pvRf_0_5, pvRf_0_6, pvRf_0_7, pvRf_0_8, pvRf_0_9, pvRf_0_10, pvRf_1_0, pvRf_3_0, pvRf_5_0, pvRf_5_1, pvRf_5_2, pvRf_9_0, pvRf_9_1, pvRf_9_2, pvRf_13_0, pvRf_13_1, pvRf_13_2, pvRf_17_0, pvRf_17_2, pvRf_20_0, pvRf_20_1, pvRf_20_2, pvRf_24_0, pvRf_24_1, pvRf_24_2, pvRf_28_0, pvRf_28_1, pvRf_28_2, pvRf_28_3, pvRf_33_0, pvRf_33_1, pvRf_36_0, pvRf_36_1, pvRf_39_0, pvRf_39_1, pvRf_39_2, pvRf_39_5, pvRf_39_6, pvRf_39_9, pvRf_39_13, pvRf_39_15, pvRf_39_16, pvRf_39_17, pvRf_39_19, pvRf_39_20, pvRf_39_22, pvRf_39_23, pvRf_39_24, pvRf_39_25, pvRf_39_29, pvRf_39_30, pvE_if_le, pvE_dconst0, pvE_dreturn, pvE_lconst1, pvE_lstore_n3, pvS2, List.length_cons, List.length_nil, pvClr_i, pvClr_r, pvClr_l, pvClr_d, pvClr_f, pvClr_n, pvE_istore, pvS1, pvE_iload, pvE_icmp_ge, pvE_lload_n3, pvLL_s, pvE_ldc2_w (h0 := kX10_265), pvE_lmul, pvE_iinc, pvIc_s, pvE_invokevirtual, aX10_acceptedShare_261, pvE_l2d, pvE_ddiv, bX10_acceptedShare_0, uX10_acceptedShare_0, bX10_acceptedShare_12, uX10_acceptedShare_12, bX10_acceptedShare_26, uX10_acceptedShare_26, bX10_acceptedShare_27, uX10_acceptedShare_27, bX10_acceptedShare_30, uX10_acceptedShare_30, bX10_acceptedShare_39, uX10_acceptedShare_39, bX10_acceptedShare_44, uX10_acceptedShare_44, bX10_acceptedShare_62, uX10_acceptedShare_62, pvMk_t, pvMk_f, pvMk_n, pvRecv_r, pvUp_nl, pvUp_same, pvUp_ap, pvSt_ap, pvX_c, pvX_ms, pvX_mn, pvE_nil, pvEn_i, pvEn_r, pvEn_l, pvEn_0, pvEn_s, pvRt, pvRv, pvTh, pvKc, pvGo, pvTgt, Int.toNat_natCast, false_and, and_false, true_and, and_true, if_true, if_false, reduceIte, reduceCtorEq, forall_const, false_or, or_false, true_or, or_true, ne_eq, not_true_eq_false, not_false_eq_true, implies_true, false_implies, Nat.reduceAdd, Nat.reduceSub, Nat.reduceMul, Nat.reduceEqDiff, Nat.reduceLT, Nat.reduceLeDiff, Int.reduceAdd, Int.reduceSub, Int.reduceMul, Int.reduceNeg, Int.reduceToNat, Int.reduceLE, Int.reduceLT, Int.reduceEq, Int.reduceNe, and_self]
          (repeat' first | with_reducible apply And.intro | with_reducible intro _)
          all_goals first
            | omega
            | exact hws _ (by assumption)
            | exact hsm'
            | exact hns _
            | skip
          all_goals
            rename frF [39, 48] _ _ _ => f1
            rename ∀ (j : Nat), _ → _ => k1
            exact q9 _ (frF_t (frF_u frF_0 (by decide)) f1 (by decide) (by decide)) (fun j a b => by rw [k1 j a]; simp [pvUp_ap, b]) (by rw [k1 8 (by decide)]; simp [pvUp_ap])
        · have q9 := ih (m - 1) (by omega) (k + 1) (w * 15) (by omega) (by rw [hw, Int.pow_succ])
          simp only [C_X10_counts, pvE_aload_n0, pvLA_s, pvLd, pvE_iload_n1, pvLI_s, pvE_invokestatic (h0 := eX10_80), pvC1_s, pvC2_s, pvAf_v, pvAf_x, pvPop, pvCs, pvCat, pvPush, aX10_acceptedShare_80, pvE_if_ne, pvE_iconst, pvE_goto, pvE_iload_n2, pvE_bipush, pvE_invokestatic (h0 := eX10_76), aX10_acceptedShare_76, pvE_if_eq, pvE_putfield, pvPf_0, pvPf_1, fX10_73, pvSh_0, pvSh_1, pvSh_2, pvSh_3, pvSh_4, pvSh_5, pvSh_6, pvSh_7, pvSh_8, pvSh_9, pvSh_10, pvSh_11, pvSh_12, pvSh_13, pvSh_14, pvSh_15, pvSh_16, pvSh_17, pvSh_18, pvSh_19, pvSh_20, pvSh_21, pvSh_22, pvSh_23, pvSh_24, pvSh_25, pvSh_26, pvSh_27, pvSh_28, pvSh_29, pvSh_30, pvSh_31, pvSh_32, pvSh_33, pvSh_34, pvSh_35, pvSh_36, pvSh_37, pvSh_38, pvSh_39, pvSh_40, pvSh_41, pvSh_42, pvSh_43, pvSh_44, pvSh_45, pvSh_46, pvSh_47, pvSh_48, pvSh_49, pvSh_50, pvSh_51, pvSh_52, pvSh_53, pvSh_54, pvSh_55, pvSh_56, pvSh_57, pvSh_58, pvSh_59, pvE_getfield, pvGf_0, pvGf_1, pvGf_2, pvRf_0_0, pvRf_0_1, pvRf_0_2, pvRf_0_3, pvRf_0_4, pvRf_0_5, pvRf_0_6, pvRf_0_7, pvRf_0_8, pvRf_0_9, pvRf_0_10, pvRf_1_0, pvRf_3_0, pvRf_5_0, pvRf_5_1, pvRf_5_2, pvRf_9_0, pvRf_9_1, pvRf_9_2, pvRf_13_0, pvRf_13_1, pvRf_13_2, pvRf_17_0, pvRf_17_2, pvRf_20_0, pvRf_20_1, pvRf_20_2, pvRf_24_0, pvRf_24_1, pvRf_24_2, pvRf_28_0, pvRf_28_1, pvRf_28_2, pvRf_28_3, pvRf_33_0, pvRf_33_1, pvRf_36_0, pvRf_36_1, pvRf_39_0, pvRf_39_1, pvRf_39_2, pvRf_39_5, pvRf_39_6, pvRf_39_9, pvRf_39_13, pvRf_39_15, pvRf_39_16, pvRf_39_17, pvRf_39_19, pvRf_39_20, pvRf_39_22, pvRf_39_23, pvRf_39_24, pvRf_39_25, pvRf_39_29, pvRf_39_30, pvE_if_le, pvE_dconst0, pvE_dreturn, pvE_lconst1, pvE_lstore_n3, pvS2, List.length_cons, List.length_nil, pvClr_i, pvClr_r, pvClr_l, pvClr_d, pvClr_f, pvClr_n, pvE_istore, pvS1, pvE_iload, pvE_icmp_ge, pvE_lload_n3, pvLL_s, pvE_ldc2_w (h0 := kX10_265), pvE_lmul, pvE_iinc, pvIc_s, pvE_invokevirtual, aX10_acceptedShare_261, pvE_l2d, pvE_ddiv, bX10_acceptedShare_0, uX10_acceptedShare_0, bX10_acceptedShare_12, uX10_acceptedShare_12, bX10_acceptedShare_26, uX10_acceptedShare_26, bX10_acceptedShare_27, uX10_acceptedShare_27, bX10_acceptedShare_30, uX10_acceptedShare_30, bX10_acceptedShare_39, uX10_acceptedShare_39, bX10_acceptedShare_44, uX10_acceptedShare_44, bX10_acceptedShare_62, uX10_acceptedShare_62, pvMk_t, pvMk_f, pvMk_n, pvRecv_r, pvUp_nl, pvUp_same, pvUp_ap, pvSt_ap, pvX_c, pvX_ms, pvX_mn, pvE_nil, pvEn_i, pvEn_r, pvEn_l, pvEn_0, pvEn_s, pvRt, pvRv, pvTh, pvKc, pvGo, pvTgt, Int.toNat_natCast, false_and, and_false, true_and, and_true, if_true, if_false, reduceIte, reduceCtorEq, forall_const, false_or, or_false, true_or, or_true, ne_eq, not_true_eq_false, not_false_eq_true, implies_true, false_implies, Nat.reduceAdd, Nat.reduceSub, Nat.reduceMul, Nat.reduceEqDiff, Nat.reduceLT, Nat.reduceLeDiff, Int.reduceAdd, Int.reduceSub, Int.reduceMul, Int.reduceNeg, Int.reduceToNat, Int.reduceLE, Int.reduceLT, Int.reduceEq, Int.reduceNe, and_self]
          (repeat' first | with_reducible apply And.intro | with_reducible intro _)
          all_goals first
            | omega
            | exact q9
    have fin : ∀ t : Int, (0 < t → Q (.inl (some (vD 0))) (pvUp z.1 39 8 t, z.2)) → 0 ≤ t → (t = 0 → (0 ≤ s ∧ s ≤ 1) ∧ 0 ≤ e ∧ e ≤ 10) → SW 30 [some (vR 39), some (vI s), some (vI e), none, none, none] (pvUp z.1 39 8 t, z.2) := by
      intro t ht1 ht0 ht2
      refine hc 20 _ _ _ fun _ _ => ?_
      simp only [pvSt1]
      by_cases h0 : t = 0
      · subst h0
        have q9 := loop (ht2 rfl).1 (ht2 rfl).2 e.toNat 0 1 (by omega) rfl
        simp only [pvE_aload_n0, pvLA_s, pvLd, pvE_iload_n1, pvLI_s, pvE_invokestatic (h0 := eX10_80), pvC1_s, pvC2_s, pvAf_v, pvAf_x, pvPop, pvCs, pvCat, pvPush, aX10_acceptedShare_80, pvE_if_ne, pvE_iconst, pvE_goto, pvE_iload_n2, pvE_bipush, pvE_invokestatic (h0 := eX10_76), aX10_acceptedShare_76, pvE_if_eq, pvE_putfield, pvPf_0, pvPf_1, fX10_73, pvSh_0, pvSh_1, pvSh_2, pvSh_3, pvSh_4, pvSh_5, pvSh_6, pvSh_7, pvSh_8, pvSh_9, pvSh_10, pvSh_11, pvSh_12, pvSh_13, pvSh_14, pvSh_15, pvSh_16, pvSh_17, pvSh_18, pvSh_19, pvSh_20, pvSh_21, pvSh_22, pvSh_23, pvSh_24, pvSh_25, pvSh_26, pvSh_27, pvSh_28, pvSh_29, pvSh_30, pvSh_31, pvSh_32, pvSh_33, pvSh_34, pvSh_35, pvSh_36, pvSh_37, pvSh_38, pvSh_39, pvSh_40, pvSh_41, pvSh_42, pvSh_43, pvSh_44, pvSh_45, pvSh_46, pvSh_47, pvSh_48, pvSh_49, pvSh_50, pvSh_51, pvSh_52, pvSh_53, pvSh_54, pvSh_55, pvSh_56, pvSh_57, pvSh_58, pvSh_59, pvE_getfield, pvGf_0, pvGf_1, pvGf_2, pvRf_0_0, pvRf_0_1, pvRf_0_2, pvRf_0_3, pvRf_0_4, pvRf_0_5, pvRf_0_6, pvRf_0_7, pvRf_0_8, pvRf_0_9, pvRf_0_10, pvRf_1_0, pvRf_3_0, pvRf_5_0, pvRf_5_1, pvRf_5_2, pvRf_9_0, pvRf_9_1, pvRf_9_2, pvRf_13_0, pvRf_13_1, pvRf_13_2, pvRf_17_0, pvRf_17_2, pvRf_20_0, pvRf_20_1, pvRf_20_2, pvRf_24_0, pvRf_24_1, pvRf_24_2, pvRf_28_0, pvRf_28_1, pvRf_28_2, pvRf_28_3, pvRf_33_0, pvRf_33_1, pvRf_36_0, pvRf_36_1, pvRf_39_0, pvRf_39_1, pvRf_39_2, pvRf_39_5, pvRf_39_6, pvRf_39_9, pvRf_39_13, pvRf_39_15, pvRf_39_16, pvRf_39_17, pvRf_39_19, pvRf_39_20, pvRf_39_22, pvRf_39_23, pvRf_39_24, pvRf_39_25, pvRf_39_29, pvRf_39_30, pvE_if_le, pvE_dconst0, pvE_dreturn, pvE_lconst1, pvE_lstore_n3, pvS2, List.length_cons, List.length_nil, pvClr_i, pvClr_r, pvClr_l, pvClr_d, pvClr_f, pvClr_n, pvE_istore, pvS1, pvE_iload, pvE_icmp_ge, pvE_lload_n3, pvLL_s, pvE_ldc2_w (h0 := kX10_265), pvE_lmul, pvE_iinc, pvIc_s, pvE_invokevirtual, aX10_acceptedShare_261, pvE_l2d, pvE_ddiv, bX10_acceptedShare_0, uX10_acceptedShare_0, bX10_acceptedShare_12, uX10_acceptedShare_12, bX10_acceptedShare_26, uX10_acceptedShare_26, bX10_acceptedShare_27, uX10_acceptedShare_27, bX10_acceptedShare_30, uX10_acceptedShare_30, bX10_acceptedShare_39, uX10_acceptedShare_39, bX10_acceptedShare_44, uX10_acceptedShare_44, bX10_acceptedShare_62, uX10_acceptedShare_62, pvMk_t, pvMk_f, pvMk_n, pvRecv_r, pvUp_nl, pvUp_same, pvUp_ap, pvSt_ap, pvX_c, pvX_ms, pvX_mn, pvE_nil, pvEn_i, pvEn_r, pvEn_l, pvEn_0, pvEn_s, pvRt, pvRv, pvTh, pvKc, pvGo, pvTgt, Int.toNat_natCast, false_and, and_false, true_and, and_true, if_true, if_false, reduceIte, reduceCtorEq, forall_const, false_or, or_false, true_or, or_true, ne_eq, not_true_eq_false, not_false_eq_true, implies_true, false_implies, Nat.reduceAdd, Nat.reduceSub, Nat.reduceMul, Nat.reduceEqDiff, Nat.reduceLT, Nat.reduceLeDiff, Int.reduceAdd, Int.reduceSub, Int.reduceMul, Int.reduceNeg, Int.reduceToNat, Int.reduceLE, Int.reduceLT, Int.reduceEq, Int.reduceNe, and_self]
        (repeat' first | with_reducible apply And.intro | with_reducible intro _)
        all_goals first
          | omega
          | exact q9
      · have q9 := ht1 (by omega)
        simp only [pvE_aload_n0, pvLA_s, pvLd, pvE_iload_n1, pvLI_s, pvE_invokestatic (h0 := eX10_80), pvC1_s, pvC2_s, pvAf_v, pvAf_x, pvPop, pvCs, pvCat, pvPush, aX10_acceptedShare_80, pvE_if_ne, pvE_iconst, pvE_goto, pvE_iload_n2, pvE_bipush, pvE_invokestatic (h0 := eX10_76), aX10_acceptedShare_76, pvE_if_eq, pvE_putfield, pvPf_0, pvPf_1, fX10_73, pvSh_0, pvSh_1, pvSh_2, pvSh_3, pvSh_4, pvSh_5, pvSh_6, pvSh_7, pvSh_8, pvSh_9, pvSh_10, pvSh_11, pvSh_12, pvSh_13, pvSh_14, pvSh_15, pvSh_16, pvSh_17, pvSh_18, pvSh_19, pvSh_20, pvSh_21, pvSh_22, pvSh_23, pvSh_24, pvSh_25, pvSh_26, pvSh_27, pvSh_28, pvSh_29, pvSh_30, pvSh_31, pvSh_32, pvSh_33, pvSh_34, pvSh_35, pvSh_36, pvSh_37, pvSh_38, pvSh_39, pvSh_40, pvSh_41, pvSh_42, pvSh_43, pvSh_44, pvSh_45, pvSh_46, pvSh_47, pvSh_48, pvSh_49, pvSh_50, pvSh_51, pvSh_52, pvSh_53, pvSh_54, pvSh_55, pvSh_56, pvSh_57, pvSh_58, pvSh_59, pvE_getfield, pvGf_0, pvGf_1, pvGf_2, pvRf_0_0, pvRf_0_1, pvRf_0_2, pvRf_0_3, pvRf_0_4, pvRf_0_5, pvRf_0_6, pvRf_0_7, pvRf_0_8, pvRf_0_9, pvRf_0_10, pvRf_1_0, pvRf_3_0, pvRf_5_0, pvRf_5_1, pvRf_5_2, pvRf_9_0, pvRf_9_1, pvRf_9_2, pvRf_13_0, pvRf_13_1, pvRf_13_2, pvRf_17_0, pvRf_17_2, pvRf_20_0, pvRf_20_1, pvRf_20_2, pvRf_24_0, pvRf_24_1, pvRf_24_2, pvRf_28_0, pvRf_28_1, pvRf_28_2, pvRf_28_3, pvRf_33_0, pvRf_33_1, pvRf_36_0, pvRf_36_1, pvRf_39_0, pvRf_39_1, pvRf_39_2, pvRf_39_5, pvRf_39_6, pvRf_39_9, pvRf_39_13, pvRf_39_15, pvRf_39_16, pvRf_39_17, pvRf_39_19, pvRf_39_20, pvRf_39_22, pvRf_39_23, pvRf_39_24, pvRf_39_25, pvRf_39_29, pvRf_39_30, pvE_if_le, pvE_dconst0, pvE_dreturn, pvE_lconst1, pvE_lstore_n3, pvS2, List.length_cons, List.length_nil, pvClr_i, pvClr_r, pvClr_l, pvClr_d, pvClr_f, pvClr_n, pvE_istore, pvS1, pvE_iload, pvE_icmp_ge, pvE_lload_n3, pvLL_s, pvE_ldc2_w (h0 := kX10_265), pvE_lmul, pvE_iinc, pvIc_s, pvE_invokevirtual, aX10_acceptedShare_261, pvE_l2d, pvE_ddiv, bX10_acceptedShare_0, uX10_acceptedShare_0, bX10_acceptedShare_12, uX10_acceptedShare_12, bX10_acceptedShare_26, uX10_acceptedShare_26, bX10_acceptedShare_27, uX10_acceptedShare_27, bX10_acceptedShare_30, uX10_acceptedShare_30, bX10_acceptedShare_39, uX10_acceptedShare_39, bX10_acceptedShare_44, uX10_acceptedShare_44, bX10_acceptedShare_62, uX10_acceptedShare_62, pvMk_t, pvMk_f, pvMk_n, pvRecv_r, pvUp_nl, pvUp_same, pvUp_ap, pvSt_ap, pvX_c, pvX_ms, pvX_mn, pvE_nil, pvEn_i, pvEn_r, pvEn_l, pvEn_0, pvEn_s, pvRt, pvRv, pvTh, pvKc, pvGo, pvTgt, Int.toNat_natCast, false_and, and_false, true_and, and_true, if_true, if_false, reduceIte, reduceCtorEq, forall_const, false_or, or_false, true_or, or_true, ne_eq, not_true_eq_false, not_false_eq_true, implies_true, false_implies, Nat.reduceAdd, Nat.reduceSub, Nat.reduceMul, Nat.reduceEqDiff, Nat.reduceLT, Nat.reduceLeDiff, Int.reduceAdd, Int.reduceSub, Int.reduceMul, Int.reduceNeg, Int.reduceToNat, Int.reduceLE, Int.reduceLT, Int.reduceEq, Int.reduceNe, and_self]
        (repeat' first | with_reducible apply And.intro | with_reducible intro _)
        all_goals first
          | omega
          | exact q9
          | contradiction
    refine hc 20 _ _ _ fun _ _ => ?_
    simp only [pvSt1]
    simp only [C_X10_isSlot, C_X10_in, pvE_aload_n0, pvLA_s, pvLd, pvE_iload_n1, pvLI_s, pvE_invokestatic (h0 := eX10_80), pvC1_s, pvC2_s, pvAf_v, pvAf_x, pvPop, pvCs, pvCat, pvPush, aX10_acceptedShare_80, pvE_if_ne, pvE_iconst, pvE_goto, pvE_iload_n2, pvE_bipush, pvE_invokestatic (h0 := eX10_76), aX10_acceptedShare_76, pvE_if_eq, pvE_putfield, pvPf_0, pvPf_1, fX10_73, pvSh_0, pvSh_1, pvSh_2, pvSh_3, pvSh_4, pvSh_5, pvSh_6, pvSh_7, pvSh_8, pvSh_9, pvSh_10, pvSh_11, pvSh_12, pvSh_13, pvSh_14, pvSh_15, pvSh_16, pvSh_17, pvSh_18, pvSh_19, pvSh_20, pvSh_21, pvSh_22, pvSh_23, pvSh_24, pvSh_25, pvSh_26, pvSh_27, pvSh_28, pvSh_29, pvSh_30, pvSh_31, pvSh_32, pvSh_33, pvSh_34, pvSh_35, pvSh_36, pvSh_37, pvSh_38, pvSh_39, pvSh_40, pvSh_41, pvSh_42, pvSh_43, pvSh_44, pvSh_45, pvSh_46, pvSh_47, pvSh_48, pvSh_49, pvSh_50, pvSh_51, pvSh_52, pvSh_53, pvSh_54, pvSh_55, pvSh_56, pvSh_57, pvSh_58, pvSh_59, pvE_getfield, pvGf_0, pvGf_1, pvGf_2, pvRf_0_0, pvRf_0_1, pvRf_0_2, pvRf_0_3, pvRf_0_4, pvRf_0_5, pvRf_0_6, pvRf_0_7, pvRf_0_8, pvRf_0_9, pvRf_0_10, pvRf_1_0, pvRf_3_0, pvRf_5_0, pvRf_5_1, pvRf_5_2, pvRf_9_0, pvRf_9_1, pvRf_9_2, pvRf_13_0, pvRf_13_1, pvRf_13_2, pvRf_17_0, pvRf_17_2, pvRf_20_0, pvRf_20_1, pvRf_20_2, pvRf_24_0, pvRf_24_1, pvRf_24_2, pvRf_28_0, pvRf_28_1, pvRf_28_2, pvRf_28_3, pvRf_33_0, pvRf_33_1, pvRf_36_0, pvRf_36_1, pvRf_39_0, pvRf_39_1, pvRf_39_2, pvRf_39_5, pvRf_39_6, pvRf_39_9, pvRf_39_13, pvRf_39_15, pvRf_39_16, pvRf_39_17, pvRf_39_19, pvRf_39_20, pvRf_39_22, pvRf_39_23, pvRf_39_24, pvRf_39_25, pvRf_39_29, pvRf_39_30, pvE_if_le, pvE_dconst0, pvE_dreturn, pvE_lconst1, pvE_lstore_n3, pvS2, List.length_cons, List.length_nil, pvClr_i, pvClr_r, pvClr_l, pvClr_d, pvClr_f, pvClr_n, pvE_istore, pvS1, pvE_iload, pvE_icmp_ge, pvE_lload_n3, pvLL_s, pvE_ldc2_w (h0 := kX10_265), pvE_lmul, pvE_iinc, pvIc_s, pvE_invokevirtual, aX10_acceptedShare_261, pvE_l2d, pvE_ddiv, bX10_acceptedShare_0, uX10_acceptedShare_0, bX10_acceptedShare_12, uX10_acceptedShare_12, bX10_acceptedShare_26, uX10_acceptedShare_26, bX10_acceptedShare_27, uX10_acceptedShare_27, bX10_acceptedShare_30, uX10_acceptedShare_30, bX10_acceptedShare_39, uX10_acceptedShare_39, bX10_acceptedShare_44, uX10_acceptedShare_44, bX10_acceptedShare_62, uX10_acceptedShare_62, pvMk_t, pvMk_f, pvMk_n, pvRecv_r, pvUp_nl, pvUp_same, pvUp_ap, pvSt_ap, pvX_c, pvX_ms, pvX_mn, pvE_nil, pvEn_i, pvEn_r, pvEn_l, pvEn_0, pvEn_s, pvRt, pvRv, pvTh, pvKc, pvGo, pvTgt, Int.toNat_natCast, false_and, and_false, true_and, and_true, if_true, if_false, reduceIte, reduceCtorEq, forall_const, false_or, or_false, true_or, or_true, ne_eq, not_true_eq_false, not_false_eq_true, implies_true, false_implies, Nat.reduceAdd, Nat.reduceSub, Nat.reduceMul, Nat.reduceEqDiff, Nat.reduceLT, Nat.reduceLeDiff, Int.reduceAdd, Int.reduceSub, Int.reduceMul, Int.reduceNeg, Int.reduceToNat, Int.reduceLE, Int.reduceLT, Int.reduceEq, Int.reduceNe, and_self]
    (repeat' first | with_reducible apply And.intro | with_reducible intro _)
    all_goals first
      | omega
      | exact fin 0 (fun h => absurd h (by decide)) (by decide) (fun _ => ⟨by omega, by omega⟩)
      | exact fin 1 (fun _ => h1 (by omega)) (by decide) (fun h => absurd h (by decide))
      | exact fin 2 (fun _ => h2 (by omega) (by omega)) (by decide) (fun h => absurd h (by decide))
  · exact h.elim
def C_X10_averageBranches : pvC
  | [.inr (.inr (.inl id)), .inl s], z, Q => id = 39 ∧ (∀ s : Int, 0 ≤ s ∧ s ≤ 1 → WfA (autR (z.1 40) s)) ∧
      (¬ (0 ≤ s ∧ s ≤ 1) → Q (.inl (some (vF 0))) (pvUp z.1 39 8 1, z.2)) ∧
      (0 ≤ s ∧ s ≤ 1 → ∀ z' : pvM, deF z z' → z'.1 39 8 = 0 → Q (.inl (some (vF (avD (baK (autR (z.1 40) s) (dsF (autR (z.1 40) s)).length) (3 * (dsF (autR (z.1 40) s)).length))))) z')
  | _, _, _ => False
def bX10_averageBranches : Nat → List (Instr × Nat)
  | 0 => [(.aload_n 0, 1), (.iload_n 1, 1), (.invokestatic 80, 3), (.ifCond .eq 7, 3), (.iconst 0, 1), (.goto 4, 3)]
  | 12 => [(.iconst 1, 1)]
  | 13 => [(.putfield 73, 3)]
  | 16 => [(.aload_n 0, 1), (.getfield 73, 3), (.ifCond .le 5, 3), (.fconst 0, 1), (.freturn, 1)]
  | 25 => [(.aload_n 0, 1), (.iload_n 1, 1), (.invokevirtual 206, 3), (.iconst 0, 1), (.istore_n 2, 1), (.iconst 0, 1), (.istore_n 3, 1)]
  | 34 => [(.iload_n 3, 1), (.aload_n 0, 1), (.getfield 194, 3), (.if_icmp .ge 39, 3), (.iconst 0, 1), (.istore 4, 2)]
  | 45 => [(.iload 4, 2), (.iconst 3, 1), (.if_icmp .ge 24, 3), (.aload_n 0, 1), (.iload_n 1, 1), (.iload_n 3, 1), (.iload 4, 2), (.invokevirtual 212, 3), (.iload_n 2, 1), (.aload_n 0, 1), (.getfield 209, 3), (.iadd, 1), (.istore_n 2, 1), (.iinc 4 1, 3), (.goto (-24), 3)]
  | 72 => [(.iinc 3 1, 3), (.goto (-41), 3)]
  | 78 => [(.iload_n 2, 1), (.i2f, 1), (.iconst 3, 1), (.aload_n 0, 1), (.getfield 194, 3), (.imul, 1), (.i2f, 1), (.fdiv, 1), (.freturn, 1)]
  | _ => []
def uX10_averageBranches : Nat → Option (List Bool)
  | 16 => some [true, true, false, false, false]
  | 34 => some [true, true, true, true, false]
  | 45 => some [true, true, true, true, true]
  | _ => none
def aX10_averageBranches : pvCa
  | 80 => some (1, true, 0, 0, C_X10_isSlot)
  | 206 => some (2, false, 9, 0, C_X10_determines)
  | 212 => some (4, false, 9, 0, C_X10_branchesOf)
  | _ => none
theorem bX10_averageBranches_0 : bX10_averageBranches 0 = [(.aload_n 0, 1), (.iload_n 1, 1), (.invokestatic 80, 3), (.ifCond .eq 7, 3), (.iconst 0, 1), (.goto 4, 3)] := rfl
theorem uX10_averageBranches_0 : uX10_averageBranches 0 = none := rfl
theorem bX10_averageBranches_12 : bX10_averageBranches 12 = [(.iconst 1, 1)] := rfl
theorem uX10_averageBranches_12 : uX10_averageBranches 12 = none := rfl
theorem bX10_averageBranches_13 : bX10_averageBranches 13 = [(.putfield 73, 3)] := rfl
theorem uX10_averageBranches_13 : uX10_averageBranches 13 = none := rfl
theorem bX10_averageBranches_16 : bX10_averageBranches 16 = [(.aload_n 0, 1), (.getfield 73, 3), (.ifCond .le 5, 3), (.fconst 0, 1), (.freturn, 1)] := rfl
theorem uX10_averageBranches_16 : uX10_averageBranches 16 = some [true, true, false, false, false] := rfl
theorem bX10_averageBranches_25 : bX10_averageBranches 25 = [(.aload_n 0, 1), (.iload_n 1, 1), (.invokevirtual 206, 3), (.iconst 0, 1), (.istore_n 2, 1), (.iconst 0, 1), (.istore_n 3, 1)] := rfl
theorem uX10_averageBranches_25 : uX10_averageBranches 25 = none := rfl
theorem bX10_averageBranches_34 : bX10_averageBranches 34 = [(.iload_n 3, 1), (.aload_n 0, 1), (.getfield 194, 3), (.if_icmp .ge 39, 3), (.iconst 0, 1), (.istore 4, 2)] := rfl
theorem uX10_averageBranches_34 : uX10_averageBranches 34 = some [true, true, true, true, false] := rfl
theorem bX10_averageBranches_45 : bX10_averageBranches 45 = [(.iload 4, 2), (.iconst 3, 1), (.if_icmp .ge 24, 3), (.aload_n 0, 1), (.iload_n 1, 1), (.iload_n 3, 1), (.iload 4, 2), (.invokevirtual 212, 3), (.iload_n 2, 1), (.aload_n 0, 1), (.getfield 209, 3), (.iadd, 1), (.istore_n 2, 1), (.iinc 4 1, 3), (.goto (-24), 3)] := rfl
theorem uX10_averageBranches_45 : uX10_averageBranches 45 = some [true, true, true, true, true] := rfl
theorem bX10_averageBranches_72 : bX10_averageBranches 72 = [(.iinc 3 1, 3), (.goto (-41), 3)] := rfl
theorem uX10_averageBranches_72 : uX10_averageBranches 72 = none := rfl
theorem bX10_averageBranches_78 : bX10_averageBranches 78 = [(.iload_n 2, 1), (.i2f, 1), (.iconst 3, 1), (.aload_n 0, 1), (.getfield 194, 3), (.imul, 1), (.i2f, 1), (.fdiv, 1), (.freturn, 1)] := rfl
theorem uX10_averageBranches_78 : uX10_averageBranches 78 = none := rfl
theorem aX10_averageBranches_80 : aX10_averageBranches 80 = some (1, true, 0, 0, C_X10_isSlot) := rfl
theorem aX10_averageBranches_206 : aX10_averageBranches 206 = some (2, false, 9, 0, C_X10_determines) := rfl
theorem aX10_averageBranches_212 : aX10_averageBranches 212 = some (4, false, 9, 0, C_X10_branchesOf) := rfl
def mX10_averageBranches : Room := { frames := 4, cells := 1, slots := 6, locals := 94 }
set_option maxRecDepth 100000 in
set_option maxHeartbeats 4000000 in
theorem okX10_averageBranches : pvOkM fX10 aX10_averageBranches kX10 eX10 (some .float) bX10_averageBranches uX10_averageBranches 5 C_X10_averageBranches := by
  intro Q SW hc as z h hS hz
  unfold C_X10_averageBranches at h
  split at h
  · rename_i id s
    obtain ⟨rfl, hws, h1, h2⟩ := h
    refine ⟨Nat.le_of_ble_eq_true rfl, ?_⟩
    have main : 0 ≤ s ∧ s ≤ 1 → ∀ z1 : pvM, frF [39, 48, 49] [] (pvUp z.1 39 8 0, z.2) z1 → (∀ j, j ≠ 18 → z1.1 39 j = (pvUp z.1 39 8 0) 39 j) → rsL z1 (dsF (autR (z.1 40) s)) → ldP (z1.1 48) s (autR (z.1 40) s) → SW 34 [some (vR 39), some (vI s), some (vI 0), some (vI 0), none] z1 := by
      intro hs z1 f1 k1 r1 l1
      have q2 := h2 hs
      have wA := hws s hs
      have e40 : z1.1 40 = z.1 40 := by
        rw [f1.1 40 (by simp)]
        show pvUp z.1 39 8 0 40 = _
        exact pvUp_ne (by decide)
      obtain ⟨A, eA⟩ : ∃ A, autR (z.1 40) s = A := ⟨_, rfl⟩
      rw [eA] at q2 wA r1 l1
      obtain ⟨L, eL⟩ : ∃ L, (dsF A).length = L := ⟨_, rfl⟩
      have hL0 : 0 < L := by rw [← eL]; exact (dsF_0 A).1
      have hL : L ≤ 16 := by rw [← eL]; exact okL_len (dsF_ok wA)
      rw [eL] at q2
      have key : ∀ z' : pvM, frF [39, 50, 51] [] z1 z' → (∀ j, j ≠ 21 → z'.1 39 j = z1.1 39 j) → autR (z'.1 40) s = A ∧ rsL z' (dsF A) ∧ ldP (z'.1 48) s A ∧ z'.1 39 18 = L := by
        intro z' f2 k2
        refine ⟨by rw [f2.1 40 (by simp), e40, eA], ⟨by rw [k2 18 (by decide)]; exact r1.1, by rw [f2.1 49 (by simp)]; exact r1.2⟩, by rw [f2.1 48 (by simp)]; exact l1, by rw [k2 18 (by decide), r1.1, eL]⟩
      have outer : ∀ (m n : Nat) (z' : pvM) (w : Int), n + m = L → frF [39, 50, 51] [] z1 z' → (∀ j, j ≠ 21 → z'.1 39 j = z1.1 39 j) → w = baK A n → SW 34 [some (vR 39), some (vI s), some (vI w), some (vI (n : Int)), none] z' := by
        intro m
        induction m using Nat.strongRecOn with
        | _ m ih =>
          intro n z' w hn f2 k2 hw
          have hbr := baK_r wA n
          have inner : n < L → ∀ (ma a : Nat) (z' : pvM) (w : Int), a + ma = 3 → frF [39, 50, 51] [] z1 z' → (∀ j, j ≠ 21 → z'.1 39 j = z1.1 39 j) → w = baK A n + (if 0 < a then ((brF A (ndF (dsF A) n) 0).length : Int) else 0) + (if 1 < a then ((brF A (ndF (dsF A) n) 1).length : Int) else 0) + (if 2 < a then ((brF A (ndF (dsF A) n) 2).length : Int) else 0) →
              SW 45 [some (vR 39), some (vI s), some (vI w), some (vI (n : Int)), some (vI (a : Int))] z' := by
            intro hnL ma
            induction ma using Nat.strongRecOn with
            | _ ma iha =>
              intro a z' w ha f2 k2 hw
              have b0 := brF_len wA (ndF (dsF A) n) 0
              have b1 := brF_len wA (ndF (dsF A) n) 1
              have b2 := brF_len wA (ndF (dsF A) n) 2
              refine hc 20 _ _ _ fun _ _ => ?_
              simp only [pvSt1]
              by_cases ha3 : 3 ≤ a
              · have q9 := ih (m - 1) (by omega) (n + 1) z' w (by omega) f2 k2 (by
                  rw [hw, if_pos (by omega), if_pos (by omega), if_pos (by omega)]
                  rfl)
                simp only [pvE_aload_n0, pvLA_s, pvLd, pvE_iload_n1, pvLI_s, pvE_invokestatic (h0 := eX10_80), pvC1_s, pvC2_s, pvAf_v, pvAf_x, pvPop, pvCs, pvCat, pvPush, aX10_averageBranches_80, pvE_if_eq, pvE_iconst, pvE_goto, pvE_putfield, pvPf_0, pvPf_1, fX10_73, pvSh_0, pvSh_1, pvSh_2, pvSh_3, pvSh_4, pvSh_5, pvSh_6, pvSh_7, pvSh_8, pvSh_9, pvSh_10, pvSh_11, pvSh_12, pvSh_13, pvSh_14, pvSh_15, pvSh_16, pvSh_17, pvSh_18, pvSh_19, pvSh_20, pvSh_21, pvSh_22, pvSh_23, pvSh_24, pvSh_25, pvSh_26, pvSh_27, pvSh_28, pvSh_29, pvSh_30, pvSh_31, pvSh_32, pvSh_33, pvSh_34, pvSh_35, pvSh_36, pvSh_37, pvSh_38, pvSh_39, pvSh_40, pvSh_41, pvSh_42, pvSh_43, pvSh_44, pvSh_45, pvSh_46, pvSh_47, pvSh_48, pvSh_49, pvSh_50, pvSh_51, pvSh_52, pvSh_53, pvSh_54, pvSh_55, pvSh_56, pvSh_57, pvSh_58, pvSh_59, pvE_getfield, pvGf_0, pvGf_1, pvGf_2, pvRf_0_0, pvRf_0_1, pvRf_0_2, pvRf_0_3, pvRf_0_4, pvRf_0_5, pvRf_0_6, pvRf_0_7, pvRf_0_8, pvRf_0_9, pvRf_0_10, pvRf_1_0, pvRf_3_0, pvRf_5_0, pvRf_5_1, pvRf_5_2, pvRf_9_0, pvRf_9_1, pvRf_9_2, pvRf_13_0, pvRf_13_1, pvRf_13_2, pvRf_17_0, pvRf_17_2, pvRf_20_0, pvRf_20_1, pvRf_20_2, pvRf_24_0, pvRf_24_1, pvRf_24_2, pvRf_28_0, pvRf_28_1, pvRf_28_2, pvRf_28_3, pvRf_33_0, pvRf_33_1, pvRf_36_0, pvRf_36_1, pvRf_39_0, pvRf_39_1, pvRf_39_2, pvRf_39_5, pvRf_39_6, pvRf_39_9, pvRf_39_13, pvRf_39_15, pvRf_39_16, pvRf_39_17, pvRf_39_19, pvRf_39_20, pvRf_39_22, pvRf_39_23, pvRf_39_24, pvRf_39_25, pvRf_39_29, pvRf_39_30, pvE_if_le, pvE_fconst0, pvE_freturn, pvE_invokevirtual, aX10_averageBranches_206, pvE_istore_n2, pvS1, List.length_cons, List.length_nil, pvClr_i, pvClr_r, pvClr_l, pvClr_d, pvClr_f, pvClr_n, pvE_istore_n3, pvE_iload_n3, fX10_194, pvE_icmp_ge, pvE_istore, pvE_iload, aX10_averageBranches_212, pvE_iload_n2, fX10_209, pvE_iadd, pvE_iinc, pvIc_s, pvE_i2f, pvE_imul, pvE_fdiv, bX10_averageBranches_0, uX10_averageBranches_0, bX10_averageBranches_12, uX10_averageBranches_12, bX10_averageBranches_13, uX10_averageBranches_13, bX10_averageBranches_16, uX10_averageBranches_16, bX10_averageBranches_25, uX10_averageBranches_25, bX10_averageBranches_34, uX10_averageBranches_34, bX10_averageBranches_45, uX10_averageBranches_45, bX10_averageBranches_72, uX10_averageBranches_72, bX10_averageBranches_78, uX10_averageBranches_78, pvMk_t, pvMk_f, pvMk_n, pvRecv_r, pvUp_nl, pvUp_same, pvUp_ap, pvSt_ap, pvX_c, pvX_ms, pvX_mn, pvE_nil, pvEn_i, pvEn_r, pvEn_l, pvEn_0, pvEn_s, pvRt, pvRv, pvTh, pvKc, pvGo, pvTgt, Int.toNat_natCast, false_and, and_false, true_and, and_true, if_true, if_false, reduceIte, reduceCtorEq, forall_const, false_or, or_false, true_or, or_true, ne_eq, not_true_eq_false, not_false_eq_true, implies_true, false_implies, Nat.reduceAdd, Nat.reduceSub, Nat.reduceMul, Nat.reduceEqDiff, Nat.reduceLT, Nat.reduceLeDiff, Int.reduceAdd, Int.reduceSub, Int.reduceMul, Int.reduceNeg, Int.reduceToNat, Int.reduceLE, Int.reduceLT, Int.reduceEq, Int.reduceNe, and_self]
                (repeat' first | with_reducible apply And.intro | with_reducible intro _)
                all_goals first
                  | omega
                  | exact q9
              · obtain ⟨y1, y2, y3, y4⟩ := key z' f2 k2
                have q9 : ∀ z'' : pvM, frF [39, 50, 51] [] z' z'' → (∀ j, j ≠ 21 → z''.1 39 j = z'.1 39 j) → ∀ c : Int, c = ((brF A (ndF (dsF A) n) (a : Int)).length : Int) → SW 45 [some (vR 39), some (vI s), some (vI (w + c)), some (vI (n : Int)), some (vI ((a : Int) + 1))] z'' := fun z'' f3 k3 c hcc => iha (ma - 1) (by omega) (a + 1) z'' (w + c) (by omega) (frF_t f2 f3 (by simp) (by simp)) (fun j hj => (k3 j hj).trans (k2 j hj)) (by
                  rw [hw, hcc]
                  rcases (show a = 0 ∨ a = 1 ∨ a = 2 by omega) with rfl | rfl | rfl <;> simp)
                have hba := brF_len wA (ndF (dsF A) n) (a : Int)
                have hwr : 0 ≤ w ∧ w ≤ 48 * n + 48 := by
                  rw [hw]
                  split <;> split <;> split <;> omega
                simp only [C_X10_branchesOf, pvE_aload_n0, pvLA_s, pvLd, pvE_iload_n1, pvLI_s, pvE_invokestatic (h0 := eX10_80), pvC1_s, pvC2_s, pvAf_v, pvAf_x, pvPop, pvCs, pvCat, pvPush, aX10_averageBranches_80, pvE_if_eq, pvE_iconst, pvE_goto, pvE_putfield, pvPf_0, pvPf_1, fX10_73, pvSh_0, pvSh_1, pvSh_2, pvSh_3, pvSh_4, pvSh_5, pvSh_6, pvSh_7, pvSh_8, pvSh_9, pvSh_10, pvSh_11, pvSh_12, pvSh_13, pvSh_14, pvSh_15, pvSh_16, pvSh_17, pvSh_18, pvSh_19, pvSh_20, pvSh_21, pvSh_22, pvSh_23, pvSh_24, pvSh_25, pvSh_26, pvSh_27, pvSh_28, pvSh_29, pvSh_30, pvSh_31, pvSh_32, pvSh_33, pvSh_34, pvSh_35, pvSh_36, pvSh_37, pvSh_38, pvSh_39, pvSh_40, pvSh_41, pvSh_42, pvSh_43, pvSh_44, pvSh_45, pvSh_46, pvSh_47, pvSh_48, pvSh_49, pvSh_50, pvSh_51, pvSh_52, pvSh_53, pvSh_54, pvSh_55, pvSh_56, pvSh_57, pvSh_58, pvSh_59, pvE_getfield, pvGf_0, pvGf_1, pvGf_2, pvRf_0_0, pvRf_0_1, pvRf_0_2, pvRf_0_3, pvRf_0_4, pvRf_0_5, pvRf_0_6, pvRf_0_7, pvRf_0_8, pvRf_0_9, pvRf_0_10, pvRf_1_0, pvRf_3_0, pvRf_5_0, pvRf_5_1, pvRf_5_2, pvRf_9_0, pvRf_9_1, pvRf_9_2, pvRf_13_0, pvRf_13_1, pvRf_13_2, pvRf_17_0, pvRf_17_2, pvRf_20_0, pvRf_20_1, pvRf_20_2, pvRf_24_0, pvRf_24_1, pvRf_24_2, pvRf_28_0, pvRf_28_1, pvRf_28_2, pvRf_28_3, pvRf_33_0, pvRf_33_1, pvRf_36_0, pvRf_36_1, pvRf_39_0, pvRf_39_1, pvRf_39_2, pvRf_39_5, pvRf_39_6, pvRf_39_9, pvRf_39_13, pvRf_39_15, pvRf_39_16, pvRf_39_17, pvRf_39_19, pvRf_39_20, pvRf_39_22, pvRf_39_23, pvRf_39_24, pvRf_39_25, pvRf_39_29, pvRf_39_30, pvE_if_le, pvE_fconst0, pvE_freturn, pvE_invokevirtual, aX10_averageBranches_206, pvE_istore_n2, pvS1, List.length_cons, List.length_nil, pvClr_i, pvClr_r, pvClr_l, pvClr_d, pvClr_f, pvClr_n, pvE_istore_n3, pvE_iload_n3, fX10_194, pvE_icmp_ge, pvE_istore, pvE_iload, aX10_averageBranches_212, pvE_iload_n2, fX10_209, pvE_iadd, pvE_iinc, pvIc_s, pvE_i2f, pvE_imul, pvE_fdiv, bX10_averageBranches_0, uX10_averageBranches_0, bX10_averageBranches_12, uX10_averageBranches_12, bX10_averageBranches_13, uX10_averageBranches_13, bX10_averageBranches_16, uX10_averageBranches_16, bX10_averageBranches_25, uX10_averageBranches_25, bX10_averageBranches_34, uX10_averageBranches_34, bX10_averageBranches_45, uX10_averageBranches_45, bX10_averageBranches_72, uX10_averageBranches_72, bX10_averageBranches_78, uX10_averageBranches_78, pvMk_t, pvMk_f, pvMk_n, pvRecv_r, pvUp_nl, pvUp_same, pvUp_ap, pvSt_ap, pvX_c, pvX_ms, pvX_mn, pvE_nil, pvEn_i, pvEn_r, pvEn_l, pvEn_0, pvEn_s, pvRt, pvRv, pvTh, pvKc, pvGo, pvTgt, Int.toNat_natCast, false_and, and_false, true_and, and_true, if_true, if_false, reduceIte, reduceCtorEq, forall_const, false_or, or_false, true_or, or_true, ne_eq, not_true_eq_false, not_false_eq_true, implies_true, false_implies, Nat.reduceAdd, Nat.reduceSub, Nat.reduceMul, Nat.reduceEqDiff, Nat.reduceLT, Nat.reduceLeDiff, Int.reduceAdd, Int.reduceSub, Int.reduceMul, Int.reduceNeg, Int.reduceToNat, Int.reduceLE, Int.reduceLT, Int.reduceEq, Int.reduceNe, and_self]
                (repeat' first | with_reducible apply And.intro | with_reducible intro _)
                all_goals first
                  | omega
                  | skip
                refine ⟨A, ⟨y1, hs, wA, y2, y3, by omega, by omega⟩, fun z'' f3 k3 e21 _ => ?_⟩
                have q8 := q9 z'' f3 k3 _ e21
                rw [e21] at q8 ⊢
                exact ⟨by omega, by omega, q8⟩
          obtain ⟨y1, y2, y3, y4⟩ := key z' f2 k2
          refine hc 20 _ _ _ fun _ _ => ?_
          simp only [pvSt1]
          by_cases hn2 : L ≤ n
          · have en : n = L := by omega
            subst en
            have q9 := q2 z' ⟨frF_t (frF_t (frF_u frF_0 (by decide)) f1 (by simp) (by simp)) f2 (by simp) (by simp), fun j a b c => by rw [k2 j c, k1 j b]; simp [pvUp_ap, a]⟩ (by rw [k2 8 (by decide), k1 8 (by decide)]; simp [pvUp_ap])
            have eav : ∀ x : Int, FP.fdiv (FP.i2f (Int32.ofInt w)) (FP.i2f (Int32.ofInt (3 * (n : Int)))) = avD (baK A n) (3 * (n : Int)) := fun x => by rw [hw]; rfl
            have eav2 := eav 0
            have hna : vf_n32 (avD (baK A n) (3 * (n : Int))) := avD_n (by omega)
            simp only [y4, eav2, pvE_aload_n0, pvLA_s, pvLd, pvE_iload_n1, pvLI_s, pvE_invokestatic (h0 := eX10_80), pvC1_s, pvC2_s, pvAf_v, pvAf_x, pvPop, pvCs, pvCat, pvPush, aX10_averageBranches_80, pvE_if_eq, pvE_iconst, pvE_goto, pvE_putfield, pvPf_0, pvPf_1, fX10_73, pvSh_0, pvSh_1, pvSh_2, pvSh_3, pvSh_4, pvSh_5, pvSh_6, pvSh_7, pvSh_8, pvSh_9, pvSh_10, pvSh_11, pvSh_12, pvSh_13, pvSh_14, pvSh_15, pvSh_16, pvSh_17, pvSh_18, pvSh_19, pvSh_20, pvSh_21, pvSh_22, pvSh_23, pvSh_24, pvSh_25, pvSh_26, pvSh_27, pvSh_28, pvSh_29, pvSh_30, pvSh_31, pvSh_32, pvSh_33, pvSh_34, pvSh_35, pvSh_36, pvSh_37, pvSh_38, pvSh_39, pvSh_40, pvSh_41, pvSh_42, pvSh_43, pvSh_44, pvSh_45, pvSh_46, pvSh_47, pvSh_48, pvSh_49, pvSh_50, pvSh_51, pvSh_52, pvSh_53, pvSh_54, pvSh_55, pvSh_56, pvSh_57, pvSh_58, pvSh_59, pvE_getfield, pvGf_0, pvGf_1, pvGf_2, pvRf_0_0, pvRf_0_1, pvRf_0_2, pvRf_0_3, pvRf_0_4, pvRf_0_5, pvRf_0_6, pvRf_0_7, pvRf_0_8, pvRf_0_9, pvRf_0_10, pvRf_1_0, pvRf_3_0, pvRf_5_0, pvRf_5_1, pvRf_5_2, pvRf_9_0, pvRf_9_1, pvRf_9_2, pvRf_13_0, pvRf_13_1, pvRf_13_2, pvRf_17_0, pvRf_17_2, pvRf_20_0, pvRf_20_1, pvRf_20_2, pvRf_24_0, pvRf_24_1, pvRf_24_2, pvRf_28_0, pvRf_28_1, pvRf_28_2, pvRf_28_3, pvRf_33_0, pvRf_33_1, pvRf_36_0, pvRf_36_1, pvRf_39_0, pvRf_39_1, pvRf_39_2, pvRf_39_5, pvRf_39_6, pvRf_39_9, pvRf_39_13, pvRf_39_15, pvRf_39_16, pvRf_39_17, pvRf_39_19, pvRf_39_20, pvRf_39_22, pvRf_39_23, pvRf_39_24, pvRf_39_25, pvRf_39_29, pvRf_39_30, pvE_if_le, pvE_fconst0, pvE_freturn, pvE_invokevirtual, aX10_averageBranches_206, pvE_istore_n2, pvS1, List.length_cons, List.length_nil, pvClr_i, pvClr_r, pvClr_l, pvClr_d, pvClr_f, pvClr_n, pvE_istore_n3, pvE_iload_n3, fX10_194, pvE_icmp_ge, pvE_istore, pvE_iload, aX10_averageBranches_212, pvE_iload_n2, fX10_209, pvE_iadd, pvE_iinc, pvIc_s, pvE_i2f, pvE_imul, pvE_fdiv, bX10_averageBranches_0, uX10_averageBranches_0, bX10_averageBranches_12, uX10_averageBranches_12, bX10_averageBranches_13, uX10_averageBranches_13, bX10_averageBranches_16, uX10_averageBranches_16, bX10_averageBranches_25, uX10_averageBranches_25, bX10_averageBranches_34, uX10_averageBranches_34, bX10_averageBranches_45, uX10_averageBranches_45, bX10_averageBranches_72, uX10_averageBranches_72, bX10_averageBranches_78, uX10_averageBranches_78, pvMk_t, pvMk_f, pvMk_n, pvRecv_r, pvUp_nl, pvUp_same, pvUp_ap, pvSt_ap, pvX_c, pvX_ms, pvX_mn, pvE_nil, pvEn_i, pvEn_r, pvEn_l, pvEn_0, pvEn_s, pvRt, pvRv, pvTh, pvKc, pvGo, pvTgt, Int.toNat_natCast, false_and, and_false, true_and, and_true, if_true, if_false, reduceIte, reduceCtorEq, forall_const, false_or, or_false, true_or, or_true, ne_eq, not_true_eq_false, not_false_eq_true, implies_true, false_implies, Nat.reduceAdd, Nat.reduceSub, Nat.reduceMul, Nat.reduceEqDiff, Nat.reduceLT, Nat.reduceLeDiff, Int.reduceAdd, Int.reduceSub, Int.reduceMul, Int.reduceNeg, Int.reduceToNat, Int.reduceLE, Int.reduceLT, Int.reduceEq, Int.reduceNe, and_self]
            (repeat' first | with_reducible apply And.intro | with_reducible intro _)
            all_goals first
              | omega
              | exact hna
              | exact q9
          · have q9 := inner (by omega) 3 0 z' w rfl f2 k2 (by rw [hw]; simp)
            simp only [y4, pvE_aload_n0, pvLA_s, pvLd, pvE_iload_n1, pvLI_s, pvE_invokestatic (h0 := eX10_80), pvC1_s, pvC2_s, pvAf_v, pvAf_x, pvPop, pvCs, pvCat, pvPush, aX10_averageBranches_80, pvE_if_eq, pvE_iconst, pvE_goto, pvE_putfield, pvPf_0, pvPf_1, fX10_73, pvSh_0, pvSh_1, pvSh_2, pvSh_3, pvSh_4, pvSh_5, pvSh_6, pvSh_7, pvSh_8, pvSh_9, pvSh_10, pvSh_11, pvSh_12, pvSh_13, pvSh_14, pvSh_15, pvSh_16, pvSh_17, pvSh_18, pvSh_19, pvSh_20, pvSh_21, pvSh_22, pvSh_23, pvSh_24, pvSh_25, pvSh_26, pvSh_27, pvSh_28, pvSh_29, pvSh_30, pvSh_31, pvSh_32, pvSh_33, pvSh_34, pvSh_35, pvSh_36, pvSh_37, pvSh_38, pvSh_39, pvSh_40, pvSh_41, pvSh_42, pvSh_43, pvSh_44, pvSh_45, pvSh_46, pvSh_47, pvSh_48, pvSh_49, pvSh_50, pvSh_51, pvSh_52, pvSh_53, pvSh_54, pvSh_55, pvSh_56, pvSh_57, pvSh_58, pvSh_59, pvE_getfield, pvGf_0, pvGf_1, pvGf_2, pvRf_0_0, pvRf_0_1, pvRf_0_2, pvRf_0_3, pvRf_0_4, pvRf_0_5, pvRf_0_6, pvRf_0_7, pvRf_0_8, pvRf_0_9, pvRf_0_10, pvRf_1_0, pvRf_3_0, pvRf_5_0, pvRf_5_1, pvRf_5_2, pvRf_9_0, pvRf_9_1, pvRf_9_2, pvRf_13_0, pvRf_13_1, pvRf_13_2, pvRf_17_0, pvRf_17_2, pvRf_20_0, pvRf_20_1, pvRf_20_2, pvRf_24_0, pvRf_24_1, pvRf_24_2, pvRf_28_0, pvRf_28_1, pvRf_28_2, pvRf_28_3, pvRf_33_0, pvRf_33_1, pvRf_36_0, pvRf_36_1, pvRf_39_0, pvRf_39_1, pvRf_39_2, pvRf_39_5, pvRf_39_6, pvRf_39_9, pvRf_39_13, pvRf_39_15, pvRf_39_16, pvRf_39_17, pvRf_39_19, pvRf_39_20, pvRf_39_22, pvRf_39_23, pvRf_39_24, pvRf_39_25, pvRf_39_29, pvRf_39_30, pvE_if_le, pvE_fconst0, pvE_freturn, pvE_invokevirtual, aX10_averageBranches_206, pvE_istore_n2, pvS1, List.length_cons, List.length_nil, pvClr_i, pvClr_r, pvClr_l, pvClr_d, pvClr_f, pvClr_n, pvE_istore_n3, pvE_iload_n3, fX10_194, pvE_icmp_ge, pvE_istore, pvE_iload, aX10_averageBranches_212, pvE_iload_n2, fX10_209, pvE_iadd, pvE_iinc, pvIc_s, pvE_i2f, pvE_imul, pvE_fdiv, bX10_averageBranches_0, uX10_averageBranches_0, bX10_averageBranches_12, uX10_averageBranches_12, bX10_averageBranches_13, uX10_averageBranches_13, bX10_averageBranches_16, uX10_averageBranches_16, bX10_averageBranches_25, uX10_averageBranches_25, bX10_averageBranches_34, uX10_averageBranches_34, bX10_averageBranches_45, uX10_averageBranches_45, bX10_averageBranches_72, uX10_averageBranches_72, bX10_averageBranches_78, uX10_averageBranches_78, pvMk_t, pvMk_f, pvMk_n, pvRecv_r, pvUp_nl, pvUp_same, pvUp_ap, pvSt_ap, pvX_c, pvX_ms, pvX_mn, pvE_nil, pvEn_i, pvEn_r, pvEn_l, pvEn_0, pvEn_s, pvRt, pvRv, pvTh, pvKc, pvGo, pvTgt, Int.toNat_natCast, false_and, and_false, true_and, and_true, if_true, if_false, reduceIte, reduceCtorEq, forall_const, false_or, or_false, true_or, or_true, ne_eq, not_true_eq_false, not_false_eq_true, implies_true, false_implies, Nat.reduceAdd, Nat.reduceSub, Nat.reduceMul, Nat.reduceEqDiff, Nat.reduceLT, Nat.reduceLeDiff, Int.reduceAdd, Int.reduceSub, Int.reduceMul, Int.reduceNeg, Int.reduceToNat, Int.reduceLE, Int.reduceLT, Int.reduceEq, Int.reduceNe, and_self]
            (repeat' first | with_reducible apply And.intro | with_reducible intro _)
            all_goals first
              | omega
              | exact q9
      exact outer L 0 z1 0 (by omega) frF_0 (fun _ _ => rfl) rfl
    have fin : ∀ t : Int, (0 < t → Q (.inl (some (vF 0))) (pvUp z.1 39 8 t, z.2)) → 0 ≤ t → (t = 0 → (0 ≤ s ∧ s ≤ 1)) → SW 16 [some (vR 39), some (vI s), none, none, none] (pvUp z.1 39 8 t, z.2) := by
      intro t ht1 ht0 ht2
      refine hc 20 _ _ _ fun _ _ => ?_
      simp only [pvSt1]
      have e40 : (pvUp z.1 39 8 t) 40 = z.1 40 := pvUp_ne (by decide)
      by_cases h0 : t = 0
      · subst h0
        have q9 := main (ht2 rfl)
        simp only [C_X10_determines, e40, pvE_aload_n0, pvLA_s, pvLd, pvE_iload_n1, pvLI_s, pvE_invokestatic (h0 := eX10_80), pvC1_s, pvC2_s, pvAf_v, pvAf_x, pvPop, pvCs, pvCat, pvPush, aX10_averageBranches_80, pvE_if_eq, pvE_iconst, pvE_goto, pvE_putfield, pvPf_0, pvPf_1, fX10_73, pvSh_0, pvSh_1, pvSh_2, pvSh_3, pvSh_4, pvSh_5, pvSh_6, pvSh_7, pvSh_8, pvSh_9, pvSh_10, pvSh_11, pvSh_12, pvSh_13, pvSh_14, pvSh_15, pvSh_16, pvSh_17, pvSh_18, pvSh_19, pvSh_20, pvSh_21, pvSh_22, pvSh_23, pvSh_24, pvSh_25, pvSh_26, pvSh_27, pvSh_28, pvSh_29, pvSh_30, pvSh_31, pvSh_32, pvSh_33, pvSh_34, pvSh_35, pvSh_36, pvSh_37, pvSh_38, pvSh_39, pvSh_40, pvSh_41, pvSh_42, pvSh_43, pvSh_44, pvSh_45, pvSh_46, pvSh_47, pvSh_48, pvSh_49, pvSh_50, pvSh_51, pvSh_52, pvSh_53, pvSh_54, pvSh_55, pvSh_56, pvSh_57, pvSh_58, pvSh_59, pvE_getfield, pvGf_0, pvGf_1, pvGf_2, pvRf_0_0, pvRf_0_1, pvRf_0_2, pvRf_0_3, pvRf_0_4, pvRf_0_5, pvRf_0_6, pvRf_0_7, pvRf_0_8, pvRf_0_9, pvRf_0_10, pvRf_1_0, pvRf_3_0, pvRf_5_0, pvRf_5_1, pvRf_5_2, pvRf_9_0, pvRf_9_1, pvRf_9_2, pvRf_13_0, pvRf_13_1, pvRf_13_2, pvRf_17_0, pvRf_17_2, pvRf_20_0, pvRf_20_1, pvRf_20_2, pvRf_24_0, pvRf_24_1, pvRf_24_2, pvRf_28_0, pvRf_28_1, pvRf_28_2, pvRf_28_3, pvRf_33_0, pvRf_33_1, pvRf_36_0, pvRf_36_1, pvRf_39_0, pvRf_39_1, pvRf_39_2, pvRf_39_5, pvRf_39_6, pvRf_39_9, pvRf_39_13, pvRf_39_15, pvRf_39_16, pvRf_39_17, pvRf_39_19, pvRf_39_20, pvRf_39_22, pvRf_39_23, pvRf_39_24, pvRf_39_25, pvRf_39_29, pvRf_39_30, pvE_if_le, pvE_fconst0, pvE_freturn, pvE_invokevirtual, aX10_averageBranches_206, pvE_istore_n2, pvS1, List.length_cons, List.length_nil, pvClr_i, pvClr_r, pvClr_l, pvClr_d, pvClr_f, pvClr_n, pvE_istore_n3, pvE_iload_n3, fX10_194, pvE_icmp_ge, pvE_istore, pvE_iload, aX10_averageBranches_212, pvE_iload_n2, fX10_209, pvE_iadd, pvE_iinc, pvIc_s, pvE_i2f, pvE_imul, pvE_fdiv, bX10_averageBranches_0, uX10_averageBranches_0, bX10_averageBranches_12, uX10_averageBranches_12, bX10_averageBranches_13, uX10_averageBranches_13, bX10_averageBranches_16, uX10_averageBranches_16, bX10_averageBranches_25, uX10_averageBranches_25, bX10_averageBranches_34, uX10_averageBranches_34, bX10_averageBranches_45, uX10_averageBranches_45, bX10_averageBranches_72, uX10_averageBranches_72, bX10_averageBranches_78, uX10_averageBranches_78, pvMk_t, pvMk_f, pvMk_n, pvRecv_r, pvUp_nl, pvUp_same, pvUp_ap, pvSt_ap, pvX_c, pvX_ms, pvX_mn, pvE_nil, pvEn_i, pvEn_r, pvEn_l, pvEn_0, pvEn_s, pvRt, pvRv, pvTh, pvKc, pvGo, pvTgt, Int.toNat_natCast, false_and, and_false, true_and, and_true, if_true, if_false, reduceIte, reduceCtorEq, forall_const, false_or, or_false, true_or, or_true, ne_eq, not_true_eq_false, not_false_eq_true, implies_true, false_implies, Nat.reduceAdd, Nat.reduceSub, Nat.reduceMul, Nat.reduceEqDiff, Nat.reduceLT, Nat.reduceLeDiff, Int.reduceAdd, Int.reduceSub, Int.reduceMul, Int.reduceNeg, Int.reduceToNat, Int.reduceLE, Int.reduceLT, Int.reduceEq, Int.reduceNe, and_self]
        (repeat' first | with_reducible apply And.intro | with_reducible intro _)
        all_goals first
          | omega
          | exact hws _ (by assumption)
          | skip
        all_goals
          rename frF [39, 48, 49] [] _ _ => f1
          rename rsL _ _ => r1
          rename ldP _ _ _ => l1
          rename ∀ (j : Nat), ¬j = 18 → _ => k1
          exact q9 _ f1 (fun j hj => by rw [k1 j hj, pvUp_ap]; simp) r1 l1
      · have q9 := ht1 (by omega)
        simp only [pvE_aload_n0, pvLA_s, pvLd, pvE_iload_n1, pvLI_s, pvE_invokestatic (h0 := eX10_80), pvC1_s, pvC2_s, pvAf_v, pvAf_x, pvPop, pvCs, pvCat, pvPush, aX10_averageBranches_80, pvE_if_eq, pvE_iconst, pvE_goto, pvE_putfield, pvPf_0, pvPf_1, fX10_73, pvSh_0, pvSh_1, pvSh_2, pvSh_3, pvSh_4, pvSh_5, pvSh_6, pvSh_7, pvSh_8, pvSh_9, pvSh_10, pvSh_11, pvSh_12, pvSh_13, pvSh_14, pvSh_15, pvSh_16, pvSh_17, pvSh_18, pvSh_19, pvSh_20, pvSh_21, pvSh_22, pvSh_23, pvSh_24, pvSh_25, pvSh_26, pvSh_27, pvSh_28, pvSh_29, pvSh_30, pvSh_31, pvSh_32, pvSh_33, pvSh_34, pvSh_35, pvSh_36, pvSh_37, pvSh_38, pvSh_39, pvSh_40, pvSh_41, pvSh_42, pvSh_43, pvSh_44, pvSh_45, pvSh_46, pvSh_47, pvSh_48, pvSh_49, pvSh_50, pvSh_51, pvSh_52, pvSh_53, pvSh_54, pvSh_55, pvSh_56, pvSh_57, pvSh_58, pvSh_59, pvE_getfield, pvGf_0, pvGf_1, pvGf_2, pvRf_0_0, pvRf_0_1, pvRf_0_2, pvRf_0_3, pvRf_0_4, pvRf_0_5, pvRf_0_6, pvRf_0_7, pvRf_0_8, pvRf_0_9, pvRf_0_10, pvRf_1_0, pvRf_3_0, pvRf_5_0, pvRf_5_1, pvRf_5_2, pvRf_9_0, pvRf_9_1, pvRf_9_2, pvRf_13_0, pvRf_13_1, pvRf_13_2, pvRf_17_0, pvRf_17_2, pvRf_20_0, pvRf_20_1, pvRf_20_2, pvRf_24_0, pvRf_24_1, pvRf_24_2, pvRf_28_0, pvRf_28_1, pvRf_28_2, pvRf_28_3, pvRf_33_0, pvRf_33_1, pvRf_36_0, pvRf_36_1, pvRf_39_0, pvRf_39_1, pvRf_39_2, pvRf_39_5, pvRf_39_6, pvRf_39_9, pvRf_39_13, pvRf_39_15, pvRf_39_16, pvRf_39_17, pvRf_39_19, pvRf_39_20, pvRf_39_22, pvRf_39_23, pvRf_39_24, pvRf_39_25, pvRf_39_29, pvRf_39_30, pvE_if_le, pvE_fconst0, pvE_freturn, pvE_invokevirtual, aX10_averageBranches_206, pvE_istore_n2, pvS1, List.length_cons, List.length_nil, pvClr_i, pvClr_r, pvClr_l, pvClr_d, pvClr_f, pvClr_n, pvE_istore_n3, pvE_iload_n3, fX10_194, pvE_icmp_ge, pvE_istore, pvE_iload, aX10_averageBranches_212, pvE_iload_n2, fX10_209, pvE_iadd, pvE_iinc, pvIc_s, pvE_i2f, pvE_imul, pvE_fdiv, bX10_averageBranches_0, uX10_averageBranches_0, bX10_averageBranches_12, uX10_averageBranches_12, bX10_averageBranches_13, uX10_averageBranches_13, bX10_averageBranches_16, uX10_averageBranches_16, bX10_averageBranches_25, uX10_averageBranches_25, bX10_averageBranches_34, uX10_averageBranches_34, bX10_averageBranches_45, uX10_averageBranches_45, bX10_averageBranches_72, uX10_averageBranches_72, bX10_averageBranches_78, uX10_averageBranches_78, pvMk_t, pvMk_f, pvMk_n, pvRecv_r, pvUp_nl, pvUp_same, pvUp_ap, pvSt_ap, pvX_c, pvX_ms, pvX_mn, pvE_nil, pvEn_i, pvEn_r, pvEn_l, pvEn_0, pvEn_s, pvRt, pvRv, pvTh, pvKc, pvGo, pvTgt, Int.toNat_natCast, false_and, and_false, true_and, and_true, if_true, if_false, reduceIte, reduceCtorEq, forall_const, false_or, or_false, true_or, or_true, ne_eq, not_true_eq_false, not_false_eq_true, implies_true, false_implies, Nat.reduceAdd, Nat.reduceSub, Nat.reduceMul, Nat.reduceEqDiff, Nat.reduceLT, Nat.reduceLeDiff, Int.reduceAdd, Int.reduceSub, Int.reduceMul, Int.reduceNeg, Int.reduceToNat, Int.reduceLE, Int.reduceLT, Int.reduceEq, Int.reduceNe, and_self]
        (repeat' first | with_reducible apply And.intro | with_reducible intro _)
        all_goals first
          | omega
          | exact q9
          | contradiction
    refine hc 20 _ _ _ fun _ _ => ?_
    simp only [pvSt1]
    simp only [C_X10_isSlot, pvE_aload_n0, pvLA_s, pvLd, pvE_iload_n1, pvLI_s, pvE_invokestatic (h0 := eX10_80), pvC1_s, pvC2_s, pvAf_v, pvAf_x, pvPop, pvCs, pvCat, pvPush, aX10_averageBranches_80, pvE_if_eq, pvE_iconst, pvE_goto, pvE_putfield, pvPf_0, pvPf_1, fX10_73, pvSh_0, pvSh_1, pvSh_2, pvSh_3, pvSh_4, pvSh_5, pvSh_6, pvSh_7, pvSh_8, pvSh_9, pvSh_10, pvSh_11, pvSh_12, pvSh_13, pvSh_14, pvSh_15, pvSh_16, pvSh_17, pvSh_18, pvSh_19, pvSh_20, pvSh_21, pvSh_22, pvSh_23, pvSh_24, pvSh_25, pvSh_26, pvSh_27, pvSh_28, pvSh_29, pvSh_30, pvSh_31, pvSh_32, pvSh_33, pvSh_34, pvSh_35, pvSh_36, pvSh_37, pvSh_38, pvSh_39, pvSh_40, pvSh_41, pvSh_42, pvSh_43, pvSh_44, pvSh_45, pvSh_46, pvSh_47, pvSh_48, pvSh_49, pvSh_50, pvSh_51, pvSh_52, pvSh_53, pvSh_54, pvSh_55, pvSh_56, pvSh_57, pvSh_58, pvSh_59, pvE_getfield, pvGf_0, pvGf_1, pvGf_2, pvRf_0_0, pvRf_0_1, pvRf_0_2, pvRf_0_3, pvRf_0_4, pvRf_0_5, pvRf_0_6, pvRf_0_7, pvRf_0_8, pvRf_0_9, pvRf_0_10, pvRf_1_0, pvRf_3_0, pvRf_5_0, pvRf_5_1, pvRf_5_2, pvRf_9_0, pvRf_9_1, pvRf_9_2, pvRf_13_0, pvRf_13_1, pvRf_13_2, pvRf_17_0, pvRf_17_2, pvRf_20_0, pvRf_20_1, pvRf_20_2, pvRf_24_0, pvRf_24_1, pvRf_24_2, pvRf_28_0, pvRf_28_1, pvRf_28_2, pvRf_28_3, pvRf_33_0, pvRf_33_1, pvRf_36_0, pvRf_36_1, pvRf_39_0, pvRf_39_1, pvRf_39_2, pvRf_39_5, pvRf_39_6, pvRf_39_9, pvRf_39_13, pvRf_39_15, pvRf_39_16, pvRf_39_17, pvRf_39_19, pvRf_39_20, pvRf_39_22, pvRf_39_23, pvRf_39_24, pvRf_39_25, pvRf_39_29, pvRf_39_30, pvE_if_le, pvE_fconst0, pvE_freturn, pvE_invokevirtual, aX10_averageBranches_206, pvE_istore_n2, pvS1, List.length_cons, List.length_nil, pvClr_i, pvClr_r, pvClr_l, pvClr_d, pvClr_f, pvClr_n, pvE_istore_n3, pvE_iload_n3, fX10_194, pvE_icmp_ge, pvE_istore, pvE_iload, aX10_averageBranches_212, pvE_iload_n2, fX10_209, pvE_iadd, pvE_iinc, pvIc_s, pvE_i2f, pvE_imul, pvE_fdiv, bX10_averageBranches_0, uX10_averageBranches_0, bX10_averageBranches_12, uX10_averageBranches_12, bX10_averageBranches_13, uX10_averageBranches_13, bX10_averageBranches_16, uX10_averageBranches_16, bX10_averageBranches_25, uX10_averageBranches_25, bX10_averageBranches_34, uX10_averageBranches_34, bX10_averageBranches_45, uX10_averageBranches_45, bX10_averageBranches_72, uX10_averageBranches_72, bX10_averageBranches_78, uX10_averageBranches_78, pvMk_t, pvMk_f, pvMk_n, pvRecv_r, pvUp_nl, pvUp_same, pvUp_ap, pvSt_ap, pvX_c, pvX_ms, pvX_mn, pvE_nil, pvEn_i, pvEn_r, pvEn_l, pvEn_0, pvEn_s, pvRt, pvRv, pvTh, pvKc, pvGo, pvTgt, Int.toNat_natCast, false_and, and_false, true_and, and_true, if_true, if_false, reduceIte, reduceCtorEq, forall_const, false_or, or_false, true_or, or_true, ne_eq, not_true_eq_false, not_false_eq_true, implies_true, false_implies, Nat.reduceAdd, Nat.reduceSub, Nat.reduceMul, Nat.reduceEqDiff, Nat.reduceLT, Nat.reduceLeDiff, Int.reduceAdd, Int.reduceSub, Int.reduceMul, Int.reduceNeg, Int.reduceToNat, Int.reduceLE, Int.reduceLT, Int.reduceEq, Int.reduceNe, and_self]
    (repeat' first | with_reducible apply And.intro | with_reducible intro _)
    all_goals first
      | omega
      | exact fin 0 (fun h => absurd h (by decide)) (by decide) (fun _ => by omega)
      | exact fin 1 (fun _ => h1 (by omega)) (by decide) (fun h => absurd h (by decide))
  · exact h.elim
