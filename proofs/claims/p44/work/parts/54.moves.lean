theorem set_bits : ∀ x : Fin 16, pvAnd ((x : Nat) : Int) 1 = (if btF ((x : Nat) : Int) 0 then 1 else 0) ∧ pvAnd ((x : Nat) : Int) 2 = (if btF ((x : Nat) : Int) 1 then 2 else 0) ∧ pvAnd ((x : Nat) : Int) 4 = (if btF ((x : Nat) : Int) 2 then 4 else 0) ∧ pvAnd ((x : Nat) : Int) 8 = (if btF ((x : Nat) : Int) 3 then 8 else 0) := by decide +kernel
theorem pvSh_ps {id : Nat} (h : id = 5 ∨ id = 9 ∨ id = 13) : pvSh id = Sum.inl 3 := by rcases h with rfl | rfl | rfl <;> rfl
def C_X3_successor : pvC
  | [.inr (.inr (.inl id)), .inl set, .inl a, .inl v], z, Q => (id = 5 ∨ id = 9 ∨ id = 13) ∧ ((0 ≤ set ∧ set ≤ 15) ∧ (0 ≤ a ∧ a ≤ 2) ∧ (0 ≤ v ∧ v < 216) ∧ 0 ≤ z.1 (id + 1) (216 * a + v).toNat ∧ z.1 (id + 1) (216 * a + v).toNat ≤ 65535) ∧ Q (.inl (some (vI (suN (z.1 (id + 1) (216 * a + v).toNat) set)))) z
  | _, _, _ => False
def bX3_successor : Nat → List (Instr × Nat)
  | 0 => [(.iload_n 2, 1), (.sipush 216, 3), (.imul, 1), (.iload_n 3, 1), (.iadd, 1), (.istore 4, 2), (.iload 4, 2), (.aload_n 0, 1), (.getfield 11, 3), (.arraylength, 1), (.invokestatic 68, 3), (.ifCond .eq 13, 3), (.aload_n 0, 1), (.getfield 11, 3), (.iload 4, 2), (.iaload, 1), (.goto 4, 3)]
  | 32 => [(.iconst 0, 1)]
  | 33 => [(.istore 5, 2), (.iconst 0, 1), (.istore 6, 2), (.iload_n 1, 1), (.iconst 1, 1), (.iand, 1), (.ifCond .eq 10, 3), (.iload 6, 2), (.iload 5, 2), (.ior, 1), (.istore 6, 2)]
  | 51 => [(.iload_n 1, 1), (.iconst 2, 1), (.iand, 1), (.ifCond .eq 12, 3), (.iload 6, 2), (.iload 5, 2), (.iconst 4, 1), (.ishr, 1), (.ior, 1), (.istore 6, 2)]
  | 66 => [(.iload_n 1, 1), (.iconst 4, 1), (.iand, 1), (.ifCond .eq 13, 3), (.iload 6, 2), (.iload 5, 2), (.bipush 8, 2), (.ishr, 1), (.ior, 1), (.istore 6, 2)]
  | 82 => [(.iload_n 1, 1), (.bipush 8, 2), (.iand, 1), (.ifCond .eq 13, 3), (.iload 6, 2), (.iload 5, 2), (.bipush 12, 2), (.ishr, 1), (.ior, 1), (.istore 6, 2)]
  | 99 => [(.iload 6, 2), (.bipush 15, 2), (.iand, 1), (.ireturn, 1)]
  | _ => []
def uX3_successor : Nat → Option (List Bool)
  | _ => none
def aX3_successor : pvCa
  | 68 => some (2, true, 0, 0, C_X9_isIndex)
  | _ => none
theorem bX3_successor_0 : bX3_successor 0 = [(.iload_n 2, 1), (.sipush 216, 3), (.imul, 1), (.iload_n 3, 1), (.iadd, 1), (.istore 4, 2), (.iload 4, 2), (.aload_n 0, 1), (.getfield 11, 3), (.arraylength, 1), (.invokestatic 68, 3), (.ifCond .eq 13, 3), (.aload_n 0, 1), (.getfield 11, 3), (.iload 4, 2), (.iaload, 1), (.goto 4, 3)] := rfl
theorem uX3_successor_0 : uX3_successor 0 = none := rfl
theorem bX3_successor_32 : bX3_successor 32 = [(.iconst 0, 1)] := rfl
theorem uX3_successor_32 : uX3_successor 32 = none := rfl
theorem bX3_successor_33 : bX3_successor 33 = [(.istore 5, 2), (.iconst 0, 1), (.istore 6, 2), (.iload_n 1, 1), (.iconst 1, 1), (.iand, 1), (.ifCond .eq 10, 3), (.iload 6, 2), (.iload 5, 2), (.ior, 1), (.istore 6, 2)] := rfl
theorem uX3_successor_33 : uX3_successor 33 = none := rfl
theorem bX3_successor_51 : bX3_successor 51 = [(.iload_n 1, 1), (.iconst 2, 1), (.iand, 1), (.ifCond .eq 12, 3), (.iload 6, 2), (.iload 5, 2), (.iconst 4, 1), (.ishr, 1), (.ior, 1), (.istore 6, 2)] := rfl
theorem uX3_successor_51 : uX3_successor 51 = none := rfl
theorem bX3_successor_66 : bX3_successor 66 = [(.iload_n 1, 1), (.iconst 4, 1), (.iand, 1), (.ifCond .eq 13, 3), (.iload 6, 2), (.iload 5, 2), (.bipush 8, 2), (.ishr, 1), (.ior, 1), (.istore 6, 2)] := rfl
theorem uX3_successor_66 : uX3_successor 66 = none := rfl
theorem bX3_successor_82 : bX3_successor 82 = [(.iload_n 1, 1), (.bipush 8, 2), (.iand, 1), (.ifCond .eq 13, 3), (.iload 6, 2), (.iload 5, 2), (.bipush 12, 2), (.ishr, 1), (.ior, 1), (.istore 6, 2)] := rfl
theorem uX3_successor_82 : uX3_successor 82 = none := rfl
theorem bX3_successor_99 : bX3_successor 99 = [(.iload 6, 2), (.bipush 15, 2), (.iand, 1), (.ireturn, 1)] := rfl
theorem uX3_successor_99 : uX3_successor 99 = none := rfl
theorem aX3_successor_68 : aX3_successor 68 = some (2, true, 0, 0, C_X9_isIndex) := rfl
set_option maxRecDepth 100000 in
set_option maxHeartbeats 4000000 in
theorem okX3_successor : pvOkM fX3 aX3_successor kX3 eX3 (some .int) bX3_successor uX3_successor 7 C_X3_successor := by
  intro Q SW hc as z h hS hz
  unfold C_X3_successor at h
  split at h
  · rename_i id set a v
    obtain ⟨hid, ⟨hs, ha, hv, hm⟩, h2⟩ := h
    obtain ⟨x, rfl⟩ := fin_of (a := set) (n := 16) (by omega)
    obtain ⟨s0, s1, s2, s3⟩ := set_bits x
    have n1 : (a * 216 + v).toNat = (216 * a + v).toNat := by congr 1; omega
    refine ⟨Nat.le_of_ble_eq_true rfl, hc 20 _ _ _ fun _ _ => ?_⟩
    clear hc hS hz
    rcases hid with rfl | rfl | rfl <;> simp only [Nat.reduceAdd] at h2 hm <;>
    (simp only [pvSt1]
     simp only [C_X9_isIndex, n1, s0, s1, s2, s3, pvE_iload_n2, pvLI_s, pvLd, pvE_sipush, pvE_imul, pvE_iload_n3, pvE_iadd, pvE_istore, pvS1, List.length_cons, List.length_nil, pvClr_i, pvClr_r, pvClr_l, pvClr_d, pvClr_f, pvClr_n, pvE_iload, pvE_aload_n0, pvLA_s, pvE_getfield, pvGf_0, pvGf_1, pvGf_2, fX3_11, pvSh_0, pvSh_1, pvSh_2, pvSh_3, pvSh_4, pvSh_5, pvSh_6, pvSh_7, pvSh_8, pvSh_9, pvSh_10, pvSh_11, pvSh_12, pvSh_13, pvSh_14, pvSh_15, pvSh_16, pvSh_17, pvSh_18, pvSh_19, pvSh_20, pvSh_21, pvSh_22, pvSh_23, pvSh_24, pvSh_25, pvSh_26, pvSh_27, pvSh_28, pvSh_29, pvSh_30, pvSh_31, pvSh_32, pvSh_33, pvSh_34, pvSh_35, pvSh_36, pvSh_37, pvSh_38, pvRf_0_0, pvRf_0_1, pvRf_0_2, pvRf_0_3, pvRf_0_4, pvRf_0_5, pvRf_0_6, pvRf_0_7, pvRf_0_8, pvRf_0_9, pvRf_0_10, pvRf_1_0, pvRf_3_0, pvRf_5_0, pvRf_5_1, pvRf_5_2, pvRf_9_0, pvRf_9_1, pvRf_9_2, pvRf_13_0, pvRf_13_1, pvRf_13_2, pvRf_17_0, pvRf_17_2, pvRf_20_0, pvRf_20_1, pvRf_20_2, pvRf_24_0, pvRf_24_1, pvRf_24_2, pvRf_28_0, pvRf_28_1, pvRf_28_2, pvRf_28_3, pvRf_33_0, pvRf_33_1, pvRf_36_0, pvRf_36_1, pvE_arraylength, pvAn, pvE_invokestatic (h0 := eX3_68), pvC1_s, pvC2_s, pvAf_v, pvAf_x, pvPop, pvCs, pvCat, pvPush, aX3_successor_68, pvE_if_eq, pvE_iaload, pvAI, pvE_goto, pvE_iconst, pvE_iload_n1, pvE_iand, pvE_ior, pvE_ishr, pvE_bipush, pvE_ireturn, bX3_successor_0, uX3_successor_0, bX3_successor_32, uX3_successor_32, bX3_successor_33, uX3_successor_33, bX3_successor_51, uX3_successor_51, bX3_successor_66, uX3_successor_66, bX3_successor_82, uX3_successor_82, bX3_successor_99, uX3_successor_99, pvRtG, pvRecv_r, pvUp_nl, pvUp_same, pvUp_ap, pvSt_ap, pvX_c, pvX_ms, pvX_mn, pvE_nil, pvEn_i, pvEn_r, pvEn_l, pvEn_0, pvEn_s, pvRt, pvRv, pvTh, pvKc, pvGo, pvTgt, Int.toNat_natCast, false_and, and_false, true_and, and_true, if_true, if_false, reduceIte, reduceCtorEq, forall_const, false_or, or_false, true_or, or_true, ne_eq, not_true_eq_false, not_false_eq_true, implies_true, false_implies, Nat.reduceAdd, Nat.reduceSub, Nat.reduceMul, Nat.reduceEqDiff, Nat.reduceLT, Nat.reduceLeDiff, Int.reduceAdd, Int.reduceSub, Int.reduceMul, Int.reduceNeg, Int.reduceToNat, Int.reduceLE, Int.reduceLT, Int.reduceEq, Int.reduceNe, and_self]
     unfold suN at h2
     cases b0 : btF ((x : Nat) : Int) 0 <;> cases b1 : btF ((x : Nat) : Int) 1 <;> cases b2 : btF ((x : Nat) : Int) 2 <;> cases b3 : btF ((x : Nat) : Int) 3 <;>
     simp only [b0, b1, b2, b3, Bool.false_eq_true, if_true, if_false, reduceIte] at h2 ⊢ <;>
     ((repeat' (first | with_reducible apply And.intro | intro _))
      all_goals first
        | omega
        | contradiction
        | exact h2))
  · exact h.elim
def C_X3_addMoves : pvC
  | [.inr (.inr (.inl id)), .inl a, .inl al, .inl b], z, Q => (id = 5 ∨ id = 9) ∧ ((0 ≤ a ∧ a ≤ 2) ∧ (0 ≤ al ∧ al < 262144)) ∧
      ∀ z' : pvM, frF [id + 1] [] z z' → (∀ i : Nat, z'.1 (id + 1) i = if (216 * a ≤ i ∧ i < 216 * a + 216) ∧ alF al ((i : Int) - 216 * a) = true then pvOr (z.1 (id + 1) i) b else z.1 (id + 1) i) → Q (.inl none) z'
  | _, _, _ => False
def bX3_addMoves : Nat → List (Instr × Nat)
  | 0 => [(.iconst 0, 1), (.istore 4, 2)]
  | 3 => [(.iload 4, 2), (.sipush 216, 3), (.if_icmp .ge 52, 3), (.iload_n 1, 1), (.sipush 216, 3), (.imul, 1), (.iload 4, 2), (.iadd, 1), (.istore 5, 2), (.iload_n 2, 1), (.iload 4, 2), (.invokestatic 64, 3), (.ifCond .eq 27, 3), (.iload 5, 2), (.aload_n 0, 1), (.getfield 11, 3), (.arraylength, 1), (.invokestatic 68, 3), (.ifCond .eq 14, 3), (.aload_n 0, 1), (.getfield 11, 3), (.iload 5, 2), (.dup2, 1), (.iaload, 1), (.iload_n 3, 1), (.ior, 1), (.iastore, 1)]
  | 54 => [(.iinc 4 1, 3), (.goto (-54), 3)]
  | 60 => [(.return_, 1)]
  | _ => []
def uX3_addMoves : Nat → Option (List Bool)
  | 3 => some [true, true, true, true, true, false]
  | _ => none
def aX3_addMoves : pvCa
  | 64 => some (2, true, 0, 0, C_X7_isAllowed)
  | 68 => some (2, true, 0, 0, C_X9_isIndex)
  | _ => none
theorem bX3_addMoves_0 : bX3_addMoves 0 = [(.iconst 0, 1), (.istore 4, 2)] := rfl
theorem uX3_addMoves_0 : uX3_addMoves 0 = none := rfl
theorem bX3_addMoves_3 : bX3_addMoves 3 = [(.iload 4, 2), (.sipush 216, 3), (.if_icmp .ge 52, 3), (.iload_n 1, 1), (.sipush 216, 3), (.imul, 1), (.iload 4, 2), (.iadd, 1), (.istore 5, 2), (.iload_n 2, 1), (.iload 4, 2), (.invokestatic 64, 3), (.ifCond .eq 27, 3), (.iload 5, 2), (.aload_n 0, 1), (.getfield 11, 3), (.arraylength, 1), (.invokestatic 68, 3), (.ifCond .eq 14, 3), (.aload_n 0, 1), (.getfield 11, 3), (.iload 5, 2), (.dup2, 1), (.iaload, 1), (.iload_n 3, 1), (.ior, 1), (.iastore, 1)] := rfl
theorem uX3_addMoves_3 : uX3_addMoves 3 = some [true, true, true, true, true, false] := rfl
theorem bX3_addMoves_54 : bX3_addMoves 54 = [(.iinc 4 1, 3), (.goto (-54), 3)] := rfl
theorem uX3_addMoves_54 : uX3_addMoves 54 = none := rfl
theorem bX3_addMoves_60 : bX3_addMoves 60 = [(.return_, 1)] := rfl
theorem uX3_addMoves_60 : uX3_addMoves 60 = none := rfl
theorem aX3_addMoves_64 : aX3_addMoves 64 = some (2, true, 0, 0, C_X7_isAllowed) := rfl
theorem aX3_addMoves_68 : aX3_addMoves 68 = some (2, true, 0, 0, C_X9_isIndex) := rfl
set_option maxRecDepth 100000 in
set_option maxHeartbeats 4000000 in
theorem okX3_addMoves : pvOkM fX3 aX3_addMoves kX3 eX3 none bX3_addMoves uX3_addMoves 6 C_X3_addMoves := by
  intro Q SW hc as z h hS hz
  unfold C_X3_addMoves at h
  split at h
  · rename_i id a al b
    obtain ⟨hid, ⟨ha, hal⟩, h2⟩ := h
    refine ⟨Nat.le_of_ble_eq_true rfl, ?_⟩
    have hsh : pvSh id = Sum.inl 3 := pvSh_ps (by omega)
    have hrf : pvRf id 0 = id + 1 := by rcases hid with rfl | rfl <;> rfl
    have hs1 : pvSh (id + 1) = Sum.inr (0, 648) := by rcases hid with rfl | rfl <;> rfl
    have hne : ¬ id + 1 = 60 := by omega
    have loop : ∀ (m k : Nat) (z' : pvM), k + m = 216 → frF [id + 1] [] z z' → (∀ i : Nat, z'.1 (id + 1) i = if (216 * a ≤ i ∧ i < 216 * a + k) ∧ alF al ((i : Int) - 216 * a) = true then pvOr (z.1 (id + 1) i) b else z.1 (id + 1) i) →
        SW 3 [some (vR id), some (vI a), some (vI al), some (vI b), some (vI (k : Int)), none] z' := by
      intro m
      induction m using Nat.strongRecOn with
      | _ m ih =>
        intro k z' hk f1 o1
        refine hc 20 _ _ _ fun _ _ => ?_
        by_cases hx : 216 ≤ k
        · have q9 := h2 z' f1 (fun i => by rw [o1 i, show k = 216 by omega]; rfl)
          simp only [pvSt1]
          simp only [C_X7_isAllowed, C_X9_isIndex, hrf, pvE_iconst, pvE_istore, pvS1, List.length_cons, List.length_nil, pvClr_i, pvClr_r, pvClr_l, pvClr_d, pvClr_f, pvClr_n, pvE_iload, pvLI_s, pvLd, pvE_sipush, pvE_icmp_ge, pvE_iload_n1, pvE_imul, pvE_iadd, pvE_iload_n2, pvE_invokestatic (h0 := eX3_64), pvC1_s, pvC2_s, pvAf_v, pvAf_x, pvPop, pvCs, pvCat, pvPush, aX3_addMoves_64, pvE_if_eq, pvE_aload_n0, pvLA_s, pvE_getfield, pvGf_0, pvGf_1, pvGf_2, fX3_11, pvSh_0, pvSh_1, pvSh_2, pvSh_3, pvSh_4, pvSh_5, pvSh_6, pvSh_7, pvSh_8, pvSh_9, pvSh_10, pvSh_11, pvSh_12, pvSh_13, pvSh_14, pvSh_15, pvSh_16, pvSh_17, pvSh_18, pvSh_19, pvSh_20, pvSh_21, pvSh_22, pvSh_23, pvSh_24, pvSh_25, pvSh_26, pvSh_27, pvSh_28, pvSh_29, pvSh_30, pvSh_31, pvSh_32, pvSh_33, pvSh_34, pvSh_35, pvSh_36, pvSh_37, pvSh_38, pvRf_0_0, pvRf_0_1, pvRf_0_2, pvRf_0_3, pvRf_0_4, pvRf_0_5, pvRf_0_6, pvRf_0_7, pvRf_0_8, pvRf_0_9, pvRf_0_10, pvRf_1_0, pvRf_3_0, pvRf_5_0, pvRf_5_1, pvRf_5_2, pvRf_9_0, pvRf_9_1, pvRf_9_2, pvRf_13_0, pvRf_13_1, pvRf_13_2, pvRf_17_0, pvRf_17_2, pvRf_20_0, pvRf_20_1, pvRf_20_2, pvRf_24_0, pvRf_24_1, pvRf_24_2, pvRf_28_0, pvRf_28_1, pvRf_28_2, pvRf_28_3, pvRf_33_0, pvRf_33_1, pvRf_36_0, pvRf_36_1, pvE_arraylength, pvAn, pvE_invokestatic (h0 := eX3_68), aX3_addMoves_68, pvE_dup2, pvE_iaload, pvAI, pvE_iload_n3, pvE_ior, pvE_iastore, pvE_iinc, pvIc_s, pvE_goto, pvE_return, bX3_addMoves_0, uX3_addMoves_0, bX3_addMoves_3, uX3_addMoves_3, bX3_addMoves_54, uX3_addMoves_54, bX3_addMoves_60, uX3_addMoves_60, pvMk_t, pvMk_f, pvMk_n, pvRtG, pvRecv_r, pvUp_nl, pvUp_same, pvUp_ap, pvSt_ap, pvX_c, pvX_ms, pvX_mn, pvE_nil, pvEn_i, pvEn_r, pvEn_l, pvEn_0, pvEn_s, pvRt, pvRv, pvTh, pvKc, pvGo, pvTgt, Int.toNat_natCast, false_and, and_false, true_and, and_true, if_true, if_false, reduceIte, reduceCtorEq, forall_const, false_or, or_false, true_or, or_true, ne_eq, not_true_eq_false, not_false_eq_true, implies_true, false_implies, Nat.reduceAdd, Nat.reduceSub, Nat.reduceMul, Nat.reduceEqDiff, Nat.reduceLT, Nat.reduceLeDiff, Int.reduceAdd, Int.reduceSub, Int.reduceMul, Int.reduceNeg, Int.reduceToNat, Int.reduceLE, Int.reduceLT, Int.reduceEq, Int.reduceNe, and_self]
          (repeat' (first | with_reducible apply And.intro | intro _))
          all_goals first
            | omega
            | exact q9
        · have n1 : (a * 216 + (k : Int)).toNat = (216 * a).toNat + k := by omega
          have oi := o1 ((216 * a).toNat + k)
          rw [if_neg (by omega)] at oi
          have q8 : alF al (k : Int) = true → SW 3 [some (vR id), some (vI a), some (vI al), some (vI b), some (vI ((k : Int) + 1)), none] (pvUp z'.1 (id + 1) ((216 * a).toNat + k) (pvOr (z'.1 (id + 1) ((216 * a).toNat + k)) b), z'.2) := fun hb =>
            ih (m - 1) (by omega) (k + 1) (pvUp z'.1 (id + 1) ((216 * a).toNat + k) (pvOr (z'.1 (id + 1) ((216 * a).toNat + k)) b), z'.2) (by omega) (frF_u f1 (by simp)) (fun i => by
              simp only [pvUp_ap, true_and]
              by_cases e : i = (216 * a).toNat + k
              · rw [if_pos e, if_pos ⟨by omega, by rw [show (i : Int) - 216 * a = k by omega]; exact hb⟩, oi, e]
              · rw [if_neg e, o1 i]
                by_cases e2 : (216 * a ≤ i ∧ i < 216 * a + k) ∧ alF al ((i : Int) - 216 * a) = true
                · rw [if_pos e2, if_pos ⟨by omega, e2.2⟩]
                · rw [if_neg e2, if_neg (fun q => e2 ⟨by omega, q.2⟩)])
          have q7 : alF al (k : Int) = false → SW 3 [some (vR id), some (vI a), some (vI al), some (vI b), some (vI ((k : Int) + 1)), none] z' := fun hb =>
            ih (m - 1) (by omega) (k + 1) z' (by omega) f1 (fun i => by
              rw [o1 i]
              by_cases e : i = (216 * a).toNat + k
              · rw [if_neg (by omega), if_neg (fun q => by rw [show (i : Int) - 216 * a = k by omega, hb] at q; exact absurd q.2 (by decide))]
              · by_cases e2 : (216 * a ≤ i ∧ i < 216 * a + k) ∧ alF al ((i : Int) - 216 * a) = true
                · rw [if_pos e2, if_pos ⟨by omega, e2.2⟩]
                · rw [if_neg e2, if_neg (fun q => e2 ⟨by omega, q.2⟩)])
          simp only [pvSt1]
          simp only [C_X7_isAllowed, C_X9_isIndex, hrf, hsh, hs1, n1, hne, pvE_iconst, pvE_istore, pvS1, List.length_cons, List.length_nil, pvClr_i, pvClr_r, pvClr_l, pvClr_d, pvClr_f, pvClr_n, pvE_iload, pvLI_s, pvLd, pvE_sipush, pvE_icmp_ge, pvE_iload_n1, pvE_imul, pvE_iadd, pvE_iload_n2, pvE_invokestatic (h0 := eX3_64), pvC1_s, pvC2_s, pvAf_v, pvAf_x, pvPop, pvCs, pvCat, pvPush, aX3_addMoves_64, pvE_if_eq, pvE_aload_n0, pvLA_s, pvE_getfield, pvGf_0, pvGf_1, pvGf_2, fX3_11, pvSh_0, pvSh_1, pvSh_2, pvSh_3, pvSh_4, pvSh_5, pvSh_6, pvSh_7, pvSh_8, pvSh_9, pvSh_10, pvSh_11, pvSh_12, pvSh_13, pvSh_14, pvSh_15, pvSh_16, pvSh_17, pvSh_18, pvSh_19, pvSh_20, pvSh_21, pvSh_22, pvSh_23, pvSh_24, pvSh_25, pvSh_26, pvSh_27, pvSh_28, pvSh_29, pvSh_30, pvSh_31, pvSh_32, pvSh_33, pvSh_34, pvSh_35, pvSh_36, pvSh_37, pvSh_38, pvRf_0_0, pvRf_0_1, pvRf_0_2, pvRf_0_3, pvRf_0_4, pvRf_0_5, pvRf_0_6, pvRf_0_7, pvRf_0_8, pvRf_0_9, pvRf_0_10, pvRf_1_0, pvRf_3_0, pvRf_5_0, pvRf_5_1, pvRf_5_2, pvRf_9_0, pvRf_9_1, pvRf_9_2, pvRf_13_0, pvRf_13_1, pvRf_13_2, pvRf_17_0, pvRf_17_2, pvRf_20_0, pvRf_20_1, pvRf_20_2, pvRf_24_0, pvRf_24_1, pvRf_24_2, pvRf_28_0, pvRf_28_1, pvRf_28_2, pvRf_28_3, pvRf_33_0, pvRf_33_1, pvRf_36_0, pvRf_36_1, pvE_arraylength, pvAn, pvE_invokestatic (h0 := eX3_68), aX3_addMoves_68, pvE_dup2, pvE_iaload, pvAI, pvE_iload_n3, pvE_ior, pvE_iastore, pvE_iinc, pvIc_s, pvE_goto, pvE_return, bX3_addMoves_0, uX3_addMoves_0, bX3_addMoves_3, uX3_addMoves_3, bX3_addMoves_54, uX3_addMoves_54, bX3_addMoves_60, uX3_addMoves_60, pvMk_t, pvMk_f, pvMk_n, pvRtG, pvRecv_r, pvUp_nl, pvUp_same, pvUp_ap, pvSt_ap, pvX_c, pvX_ms, pvX_mn, pvE_nil, pvEn_i, pvEn_r, pvEn_l, pvEn_0, pvEn_s, pvRt, pvRv, pvTh, pvKc, pvGo, pvTgt, Int.toNat_natCast, false_and, and_false, true_and, and_true, if_true, if_false, reduceIte, reduceCtorEq, forall_const, false_or, or_false, true_or, or_true, ne_eq, not_true_eq_false, not_false_eq_true, implies_true, false_implies, Nat.reduceAdd, Nat.reduceSub, Nat.reduceMul, Nat.reduceEqDiff, Nat.reduceLT, Nat.reduceLeDiff, Int.reduceAdd, Int.reduceSub, Int.reduceMul, Int.reduceNeg, Int.reduceToNat, Int.reduceLE, Int.reduceLT, Int.reduceEq, Int.reduceNe, and_self]
          (repeat' (first | with_reducible apply And.intro | intro _))
          all_goals first
            | omega
            | contradiction
            | (apply q8; assumption)
            | (apply q7; assumption)
    refine hc 20 _ _ _ fun _ _ => ?_
    simp only [pvSt1]
    simp only [pvE_iconst, pvE_istore, pvS1, List.length_cons, List.length_nil, pvClr_i, pvClr_r, pvClr_l, pvClr_d, pvClr_f, pvClr_n, pvE_iload, pvLI_s, pvLd, pvE_sipush, pvE_icmp_ge, pvE_iload_n1, pvE_imul, pvE_iadd, pvE_iload_n2, pvE_invokestatic (h0 := eX3_64), pvC1_s, pvC2_s, pvAf_v, pvAf_x, pvPop, pvCs, pvCat, pvPush, aX3_addMoves_64, pvE_if_eq, pvE_aload_n0, pvLA_s, pvE_getfield, pvGf_0, pvGf_1, pvGf_2, fX3_11, pvSh_0, pvSh_1, pvSh_2, pvSh_3, pvSh_4, pvSh_5, pvSh_6, pvSh_7, pvSh_8, pvSh_9, pvSh_10, pvSh_11, pvSh_12, pvSh_13, pvSh_14, pvSh_15, pvSh_16, pvSh_17, pvSh_18, pvSh_19, pvSh_20, pvSh_21, pvSh_22, pvSh_23, pvSh_24, pvSh_25, pvSh_26, pvSh_27, pvSh_28, pvSh_29, pvSh_30, pvSh_31, pvSh_32, pvSh_33, pvSh_34, pvSh_35, pvSh_36, pvSh_37, pvSh_38, pvRf_0_0, pvRf_0_1, pvRf_0_2, pvRf_0_3, pvRf_0_4, pvRf_0_5, pvRf_0_6, pvRf_0_7, pvRf_0_8, pvRf_0_9, pvRf_0_10, pvRf_1_0, pvRf_3_0, pvRf_5_0, pvRf_5_1, pvRf_5_2, pvRf_9_0, pvRf_9_1, pvRf_9_2, pvRf_13_0, pvRf_13_1, pvRf_13_2, pvRf_17_0, pvRf_17_2, pvRf_20_0, pvRf_20_1, pvRf_20_2, pvRf_24_0, pvRf_24_1, pvRf_24_2, pvRf_28_0, pvRf_28_1, pvRf_28_2, pvRf_28_3, pvRf_33_0, pvRf_33_1, pvRf_36_0, pvRf_36_1, pvE_arraylength, pvAn, pvE_invokestatic (h0 := eX3_68), aX3_addMoves_68, pvE_dup2, pvE_iaload, pvAI, pvE_iload_n3, pvE_ior, pvE_iastore, pvE_iinc, pvIc_s, pvE_goto, pvE_return, bX3_addMoves_0, uX3_addMoves_0, bX3_addMoves_3, uX3_addMoves_3, bX3_addMoves_54, uX3_addMoves_54, bX3_addMoves_60, uX3_addMoves_60, pvMk_t, pvMk_f, pvMk_n, pvRtG, pvRecv_r, pvUp_nl, pvUp_same, pvUp_ap, pvSt_ap, pvX_c, pvX_ms, pvX_mn, pvE_nil, pvEn_i, pvEn_r, pvEn_l, pvEn_0, pvEn_s, pvRt, pvRv, pvTh, pvKc, pvGo, pvTgt, Int.toNat_natCast, false_and, and_false, true_and, and_true, if_true, if_false, reduceIte, reduceCtorEq, forall_const, false_or, or_false, true_or, or_true, ne_eq, not_true_eq_false, not_false_eq_true, implies_true, false_implies, Nat.reduceAdd, Nat.reduceSub, Nat.reduceMul, Nat.reduceEqDiff, Nat.reduceLT, Nat.reduceLeDiff, Int.reduceAdd, Int.reduceSub, Int.reduceMul, Int.reduceNeg, Int.reduceToNat, Int.reduceLE, Int.reduceLT, Int.reduceEq, Int.reduceNe, and_self]
    (repeat' (first | with_reducible apply And.intro | intro _))
    all_goals first
      | omega
      | exact loop 216 0 z (by omega) frF_0 (fun i => by rw [if_neg (by omega)])
  · exact h.elim
theorem mvK_s {f f' : Nat → Int} {T : Nat → Nat → Int} {k : Nat} {al : Int} (h : mvK f T k) (h0 : 0 ≤ T k 0 ∧ T k 0 ≤ 3) (h1 : 0 ≤ T k 1 ∧ T k 1 ≤ 2) (h2 : 0 ≤ T k 2 ∧ T k 2 ≤ 3) (hal : ∀ v : Nat, v < 216 → (alF al v = true ↔ blF (T k) v < 0))
    (hf : ∀ i : Nat, f' i = if (216 * T k 1 ≤ i ∧ i < 216 * T k 1 + 216) ∧ alF al ((i : Int) - 216 * T k 1) = true then pvOr (f i) (pvShl 1 (4 * T k 0 + T k 2)) else f i) : mvK f' T (k + 1) := by
  intro a v ha hv
  obtain ⟨b1, b2⟩ := h a v ha hv
  have hfi := hf (216 * a + v)
  have ob := or_bit (x := f (216 * a + v)) (j := 4 * T k 0 + T k 2) b1 (by omega)
  by_cases e : T k 1 = a ∧ blF (T k) v < 0
  · rw [if_pos ⟨by omega, by rw [show ((216 * a + v : Nat) : Int) - 216 * T k 1 = v by omega]; exact (hal v hv).mpr e.2⟩] at hfi
    rw [hfi]
    refine ⟨ob.1, fun q r hq hr => ?_⟩
    rw [ob.2, Bool.or_eq_true, b2 q r hq hr, decide_eq_true_iff]
    constructor
    · rintro (⟨t, ht, h9⟩ | h9)
      · exact ⟨t, by omega, h9⟩
      · exact ⟨k, by omega, by omega, by omega, e⟩
    · rintro ⟨t, ht, t0, t2, h9⟩
      by_cases et : t = k
      · subst et; exact Or.inr (by omega)
      · exact Or.inl ⟨t, by omega, t0, t2, h9⟩
  · rw [if_neg (fun q => by
      have e1 : T k 1 = a := by omega
      rw [show ((216 * a + v : Nat) : Int) - 216 * T k 1 = v by omega] at q
      exact e ⟨e1, (hal v hv).mp q.2⟩)] at hfi
    rw [hfi]
    refine ⟨b1, fun q r hq hr => ?_⟩
    rw [b2 q r hq hr]
    constructor
    · rintro ⟨t, ht, h9⟩; exact ⟨t, by omega, h9⟩
    · rintro ⟨t, ht, t0, t2, h9⟩
      by_cases et : t = k
      · subst et; exact absurd h9 e
      · exact ⟨t, by omega, t0, t2, h9⟩
def C_X3_findMoves : pvC
  | [.inr (.inr (.inl id)), .inr (.inr (.inl b))], z, Q => (id = 5 ∨ id = 9) ∧ ((b = 1 ∨ b = 3) ∧ WfC (z.1 (b + 1))) ∧
      ∀ z' : pvM, frF [id + 1] [] z z' → mvP (z'.1 (id + 1)) (autC (z.1 (b + 1))) → Q (.inl none) z'
  | _, _, _ => False
def bX3_findMoves : Nat → List (Instr × Nat)
  | 0 => [(.iconst 0, 1), (.istore_n 2, 1)]
  | 2 => [(.iload_n 2, 1), (.aload_n 0, 1), (.getfield 11, 3), (.arraylength, 1), (.if_icmp .ge 16, 3), (.aload_n 0, 1), (.getfield 11, 3), (.iload_n 2, 1), (.iconst 0, 1), (.iastore, 1), (.iinc 2 1, 3), (.goto (-19), 3)]
  | 24 => [(.iconst 0, 1), (.istore_n 2, 1)]
  | 26 => [(.iload_n 2, 1), (.aload_n 1, 1), (.invokevirtual 53, 3), (.if_icmp .ge 45, 3), (.iconst 1, 1), (.iconst 4, 1), (.aload_n 1, 1), (.iload_n 2, 1), (.iconst 0, 1), (.invokevirtual 56, 3), (.imul, 1), (.aload_n 1, 1), (.iload_n 2, 1), (.iconst 2, 1), (.invokevirtual 56, 3), (.iadd, 1), (.ishl, 1), (.istore_n 3, 1), (.aload_n 0, 1), (.aload_n 1, 1), (.iload_n 2, 1), (.iconst 1, 1), (.invokevirtual 56, 3), (.aload_n 1, 1), (.iload_n 2, 1), (.bipush 16, 2), (.invokevirtual 56, 3), (.iload_n 3, 1), (.invokevirtual 60, 3), (.iinc 2 1, 3), (.goto (-47), 3)]
  | 76 => [(.return_, 1)]
  | _ => []
def uX3_findMoves : Nat → Option (List Bool)
  | 2 => some [true, true, true, false]
  | 26 => some [true, true, true, false]
  | _ => none
def aX3_findMoves : pvCa
  | 53 => some (1, false, 0, 0, C_X0_size)
  | 56 => some (3, false, 0, 0, C_X0_cell)
  | 60 => some (4, false, 3, 0, C_X3_addMoves)
  | _ => none
theorem bX3_findMoves_0 : bX3_findMoves 0 = [(.iconst 0, 1), (.istore_n 2, 1)] := rfl
theorem uX3_findMoves_0 : uX3_findMoves 0 = none := rfl
theorem bX3_findMoves_2 : bX3_findMoves 2 = [(.iload_n 2, 1), (.aload_n 0, 1), (.getfield 11, 3), (.arraylength, 1), (.if_icmp .ge 16, 3), (.aload_n 0, 1), (.getfield 11, 3), (.iload_n 2, 1), (.iconst 0, 1), (.iastore, 1), (.iinc 2 1, 3), (.goto (-19), 3)] := rfl
theorem uX3_findMoves_2 : uX3_findMoves 2 = some [true, true, true, false] := rfl
theorem bX3_findMoves_24 : bX3_findMoves 24 = [(.iconst 0, 1), (.istore_n 2, 1)] := rfl
theorem uX3_findMoves_24 : uX3_findMoves 24 = none := rfl
theorem bX3_findMoves_26 : bX3_findMoves 26 = [(.iload_n 2, 1), (.aload_n 1, 1), (.invokevirtual 53, 3), (.if_icmp .ge 45, 3), (.iconst 1, 1), (.iconst 4, 1), (.aload_n 1, 1), (.iload_n 2, 1), (.iconst 0, 1), (.invokevirtual 56, 3), (.imul, 1), (.aload_n 1, 1), (.iload_n 2, 1), (.iconst 2, 1), (.invokevirtual 56, 3), (.iadd, 1), (.ishl, 1), (.istore_n 3, 1), (.aload_n 0, 1), (.aload_n 1, 1), (.iload_n 2, 1), (.iconst 1, 1), (.invokevirtual 56, 3), (.aload_n 1, 1), (.iload_n 2, 1), (.bipush 16, 2), (.invokevirtual 56, 3), (.iload_n 3, 1), (.invokevirtual 60, 3), (.iinc 2 1, 3), (.goto (-47), 3)] := rfl
theorem uX3_findMoves_26 : uX3_findMoves 26 = some [true, true, true, false] := rfl
theorem bX3_findMoves_76 : bX3_findMoves 76 = [(.return_, 1)] := rfl
theorem uX3_findMoves_76 : uX3_findMoves 76 = none := rfl
theorem aX3_findMoves_53 : aX3_findMoves 53 = some (1, false, 0, 0, C_X0_size) := rfl
theorem aX3_findMoves_56 : aX3_findMoves 56 = some (3, false, 0, 0, C_X0_cell) := rfl
theorem aX3_findMoves_60 : aX3_findMoves 60 = some (4, false, 3, 0, C_X3_addMoves) := rfl
set_option maxRecDepth 100000 in
set_option maxHeartbeats 4000000 in
theorem okX3_findMoves : pvOkM fX3 aX3_findMoves kX3 eX3 none bX3_findMoves uX3_findMoves 4 C_X3_findMoves := by
  intro Q SW hc as z h hS hz
  unfold C_X3_findMoves at h
  split at h
  · rename_i id b
    obtain ⟨hid, ⟨hb, hw⟩, h2⟩ := h
    refine ⟨Nat.le_of_ble_eq_true rfl, ?_⟩
    have hsh : pvSh id = Sum.inl 3 := pvSh_ps (by omega)
    have hsb : pvSh b = Sum.inl 0 := by rcases hb with rfl | rfl <;> rfl
    have hrf : pvRf id 0 = id + 1 := by rcases hid with rfl | rfl <;> rfl
    have hs1 : pvSh (id + 1) = Sum.inr (0, 648) := by rcases hid with rfl | rfl <;> rfl
    have hne : ¬ id + 1 = 60 := by omega
    have hbm : b + 1 ∉ [id + 1] := by simp; omega
    have hn : 0 ≤ z.1 (b + 1) 0 ∧ z.1 (b + 1) 0 ≤ 10 := hw.1.1
    have loop : ∀ (m k : Nat) (z' : pvM), (k : Int) + m = z.1 (b + 1) 0 → frF [id + 1] [] z z' → mvK (z'.1 (id + 1)) (autC (z.1 (b + 1))).2.2.2 k →
        SW 26 [some (vR id), some (vR b), some (vI (k : Int)), none] z' := by
      intro m
      induction m using Nat.strongRecOn with
      | _ m ih =>
        intro k z' hk f1 o1
        have gb := f1.1 (b + 1) hbm
        refine hc 20 _ _ _ fun _ _ => ?_
        simp only [pvSt1]
        simp only [C_X0_size, C_X0_cell, C_X3_addMoves, gb, pvE_iconst, pvE_istore_n2, pvS1, List.length_cons, List.length_nil, pvClr_i, pvClr_r, pvClr_l, pvClr_d, pvClr_f, pvClr_n, pvE_iload_n2, pvLI_s, pvLd, pvE_aload_n0, pvLA_s, pvE_getfield, pvGf_0, pvGf_1, pvGf_2, fX3_11, pvSh_0, pvSh_1, pvSh_2, pvSh_3, pvSh_4, pvSh_5, pvSh_6, pvSh_7, pvSh_8, pvSh_9, pvSh_10, pvSh_11, pvSh_12, pvSh_13, pvSh_14, pvSh_15, pvSh_16, pvSh_17, pvSh_18, pvSh_19, pvSh_20, pvSh_21, pvSh_22, pvSh_23, pvSh_24, pvSh_25, pvSh_26, pvSh_27, pvSh_28, pvSh_29, pvSh_30, pvSh_31, pvSh_32, pvSh_33, pvSh_34, pvSh_35, pvSh_36, pvSh_37, pvSh_38, pvRf_0_0, pvRf_0_1, pvRf_0_2, pvRf_0_3, pvRf_0_4, pvRf_0_5, pvRf_0_6, pvRf_0_7, pvRf_0_8, pvRf_0_9, pvRf_0_10, pvRf_1_0, pvRf_3_0, pvRf_5_0, pvRf_5_1, pvRf_5_2, pvRf_9_0, pvRf_9_1, pvRf_9_2, pvRf_13_0, pvRf_13_1, pvRf_13_2, pvRf_17_0, pvRf_17_2, pvRf_20_0, pvRf_20_1, pvRf_20_2, pvRf_24_0, pvRf_24_1, pvRf_24_2, pvRf_28_0, pvRf_28_1, pvRf_28_2, pvRf_28_3, pvRf_33_0, pvRf_33_1, pvRf_36_0, pvRf_36_1, pvE_arraylength, pvAn, pvE_icmp_ge, pvE_iastore, pvAI, pvE_iinc, pvIc_s, pvE_goto, pvE_aload_n1, pvE_invokevirtual, pvC1_s, pvC2_s, pvAf_v, pvAf_x, pvPop, pvCs, pvCat, pvPush, aX3_findMoves_53, aX3_findMoves_56, pvE_imul, pvE_iadd, pvE_ishl, pvE_istore_n3, pvE_bipush, pvE_iload_n3, aX3_findMoves_60, pvE_return, bX3_findMoves_0, uX3_findMoves_0, bX3_findMoves_2, uX3_findMoves_2, bX3_findMoves_24, uX3_findMoves_24, bX3_findMoves_26, uX3_findMoves_26, bX3_findMoves_76, uX3_findMoves_76, pvMk_t, pvMk_f, pvMk_n, pvRtG, pvRecv_r, pvUp_nl, pvUp_same, pvUp_ap, pvSt_ap, pvX_c, pvX_ms, pvX_mn, pvE_nil, pvEn_i, pvEn_r, pvEn_l, pvEn_0, pvEn_s, pvRt, pvRv, pvTh, pvKc, pvGo, pvTgt, Int.toNat_natCast, false_and, and_false, true_and, and_true, if_true, if_false, reduceIte, reduceCtorEq, forall_const, false_or, or_false, true_or, or_true, ne_eq, not_true_eq_false, not_false_eq_true, implies_true, false_implies, Nat.reduceAdd, Nat.reduceSub, Nat.reduceMul, Nat.reduceEqDiff, Nat.reduceLT, Nat.reduceLeDiff, Int.reduceAdd, Int.reduceSub, Int.reduceMul, Int.reduceNeg, Int.reduceToNat, Int.reduceLE, Int.reduceLT, Int.reduceEq, Int.reduceNe, and_self]
        by_cases hx : z.1 (b + 1) 0 ≤ k
        · have q9 := h2 z' f1 (by unfold mvP; rw [show (autC (z.1 (b + 1))).1.toNat = k by show (z.1 (b + 1) 0).toNat = k; omega]; exact o1)
          (repeat' (first | with_reducible apply And.intro | intro _))
          all_goals first
            | omega
            | exact q9
        · have hT := autC_w hw (t := k) (by omega)
          have e := autC_T (f := z.1 (b + 1)) (t := k) (by show (k : Int) < z.1 (b + 1) 0; omega)
          obtain ⟨w1, w2⟩ := hw.2 k (by omega)
          have t0 : (autC (z.1 (b + 1))).2.2.2 k 0 = cT (z.1 (b + 1)) k 0 := by rw [e, nrT_s (by decide)]
          have t1 : (autC (z.1 (b + 1))).2.2.2 k 1 = cT (z.1 (b + 1)) k 1 := by rw [e, nrT_s (by decide)]
          have t2 : (autC (z.1 (b + 1))).2.2.2 k 2 = cT (z.1 (b + 1)) k 2 := by rw [e, nrT_s (by decide)]
          have e0 := hT.1
          have e1 := hT.2.1
          have e2 := hT.2.2.1
          (repeat' (first | with_reducible apply And.intro | intro _))
          all_goals first
            | omega
            | skip
          all_goals
            rename_i z1 f2 o2
            refine ih (m - 1) (by omega) (k + 1) z1 (by omega) (frF_t f1 f2 (by simp) (by simp)) (mvK_s (al := cT (z.1 (b + 1)) k 16) o1 (by rw [t0]; exact e0) (by rw [t1]; exact e1) (by rw [t2]; exact e2) (fun v hv => by rw [e, blF_nr]; exact w2 v hv) (by rw [t0, t1, t2]; exact o2))
    have zero : ∀ (m k : Nat) (z' : pvM), k + m = 648 → frF [id + 1] [] z z' → (∀ i : Nat, i < k → z'.1 (id + 1) i = 0) →
        SW 2 [some (vR id), some (vR b), some (vI (k : Int)), none] z' := by
      intro m
      induction m using Nat.strongRecOn with
      | _ m ih =>
        intro k z' hk f1 o1
        refine hc 20 _ _ _ fun _ _ => ?_
        simp only [pvSt1]
        simp only [hrf, hsh, hs1, hne, pvE_iconst, pvE_istore_n2, pvS1, List.length_cons, List.length_nil, pvClr_i, pvClr_r, pvClr_l, pvClr_d, pvClr_f, pvClr_n, pvE_iload_n2, pvLI_s, pvLd, pvE_aload_n0, pvLA_s, pvE_getfield, pvGf_0, pvGf_1, pvGf_2, fX3_11, pvSh_0, pvSh_1, pvSh_2, pvSh_3, pvSh_4, pvSh_5, pvSh_6, pvSh_7, pvSh_8, pvSh_9, pvSh_10, pvSh_11, pvSh_12, pvSh_13, pvSh_14, pvSh_15, pvSh_16, pvSh_17, pvSh_18, pvSh_19, pvSh_20, pvSh_21, pvSh_22, pvSh_23, pvSh_24, pvSh_25, pvSh_26, pvSh_27, pvSh_28, pvSh_29, pvSh_30, pvSh_31, pvSh_32, pvSh_33, pvSh_34, pvSh_35, pvSh_36, pvSh_37, pvSh_38, pvRf_0_0, pvRf_0_1, pvRf_0_2, pvRf_0_3, pvRf_0_4, pvRf_0_5, pvRf_0_6, pvRf_0_7, pvRf_0_8, pvRf_0_9, pvRf_0_10, pvRf_1_0, pvRf_3_0, pvRf_5_0, pvRf_5_1, pvRf_5_2, pvRf_9_0, pvRf_9_1, pvRf_9_2, pvRf_13_0, pvRf_13_1, pvRf_13_2, pvRf_17_0, pvRf_17_2, pvRf_20_0, pvRf_20_1, pvRf_20_2, pvRf_24_0, pvRf_24_1, pvRf_24_2, pvRf_28_0, pvRf_28_1, pvRf_28_2, pvRf_28_3, pvRf_33_0, pvRf_33_1, pvRf_36_0, pvRf_36_1, pvE_arraylength, pvAn, pvE_icmp_ge, pvE_iastore, pvAI, pvE_iinc, pvIc_s, pvE_goto, pvE_aload_n1, pvE_invokevirtual, pvC1_s, pvC2_s, pvAf_v, pvAf_x, pvPop, pvCs, pvCat, pvPush, aX3_findMoves_53, aX3_findMoves_56, pvE_imul, pvE_iadd, pvE_ishl, pvE_istore_n3, pvE_bipush, pvE_iload_n3, aX3_findMoves_60, pvE_return, bX3_findMoves_0, uX3_findMoves_0, bX3_findMoves_2, uX3_findMoves_2, bX3_findMoves_24, uX3_findMoves_24, bX3_findMoves_26, uX3_findMoves_26, bX3_findMoves_76, uX3_findMoves_76, pvMk_t, pvMk_f, pvMk_n, pvRtG, pvRecv_r, pvUp_nl, pvUp_same, pvUp_ap, pvSt_ap, pvX_c, pvX_ms, pvX_mn, pvE_nil, pvEn_i, pvEn_r, pvEn_l, pvEn_0, pvEn_s, pvRt, pvRv, pvTh, pvKc, pvGo, pvTgt, Int.toNat_natCast, false_and, and_false, true_and, and_true, if_true, if_false, reduceIte, reduceCtorEq, forall_const, false_or, or_false, true_or, or_true, ne_eq, not_true_eq_false, not_false_eq_true, implies_true, false_implies, Nat.reduceAdd, Nat.reduceSub, Nat.reduceMul, Nat.reduceEqDiff, Nat.reduceLT, Nat.reduceLeDiff, Int.reduceAdd, Int.reduceSub, Int.reduceMul, Int.reduceNeg, Int.reduceToNat, Int.reduceLE, Int.reduceLT, Int.reduceEq, Int.reduceNe, and_self]
        by_cases hx : 648 ≤ k
        · have q9 := loop (z.1 (b + 1) 0).toNat 0 z' (by omega) f1 (fun a v ha hv => by
            rw [o1 (216 * a + v) (by omega)]
            refine ⟨by decide, fun q r hq hr => ?_⟩
            constructor
            · intro h9; exact absurd h9 (by simp)
            · rintro ⟨t, ht, _⟩; exact absurd ht (Nat.not_lt_zero _))
          (repeat' (first | with_reducible apply And.intro | intro _))
          all_goals first
            | omega
            | exact q9
        · have q9 := ih (m - 1) (by omega) (k + 1) (pvUp z'.1 (id + 1) k 0, z'.2) (by omega) (frF_u f1 (by simp)) (fun i hi => by
            simp only [pvUp_ap, true_and]
            by_cases e : i = k
            · rw [if_pos e]
            · rw [if_neg e]; exact o1 i (by omega))
          (repeat' (first | with_reducible apply And.intro | intro _))
          all_goals first
            | omega
            | exact q9
    refine hc 20 _ _ _ fun _ _ => ?_
    simp only [pvSt1]
    simp only [pvE_iconst, pvE_istore_n2, pvS1, List.length_cons, List.length_nil, pvClr_i, pvClr_r, pvClr_l, pvClr_d, pvClr_f, pvClr_n, pvE_iload_n2, pvLI_s, pvLd, pvE_aload_n0, pvLA_s, pvE_getfield, pvGf_0, pvGf_1, pvGf_2, fX3_11, pvSh_0, pvSh_1, pvSh_2, pvSh_3, pvSh_4, pvSh_5, pvSh_6, pvSh_7, pvSh_8, pvSh_9, pvSh_10, pvSh_11, pvSh_12, pvSh_13, pvSh_14, pvSh_15, pvSh_16, pvSh_17, pvSh_18, pvSh_19, pvSh_20, pvSh_21, pvSh_22, pvSh_23, pvSh_24, pvSh_25, pvSh_26, pvSh_27, pvSh_28, pvSh_29, pvSh_30, pvSh_31, pvSh_32, pvSh_33, pvSh_34, pvSh_35, pvSh_36, pvSh_37, pvSh_38, pvRf_0_0, pvRf_0_1, pvRf_0_2, pvRf_0_3, pvRf_0_4, pvRf_0_5, pvRf_0_6, pvRf_0_7, pvRf_0_8, pvRf_0_9, pvRf_0_10, pvRf_1_0, pvRf_3_0, pvRf_5_0, pvRf_5_1, pvRf_5_2, pvRf_9_0, pvRf_9_1, pvRf_9_2, pvRf_13_0, pvRf_13_1, pvRf_13_2, pvRf_17_0, pvRf_17_2, pvRf_20_0, pvRf_20_1, pvRf_20_2, pvRf_24_0, pvRf_24_1, pvRf_24_2, pvRf_28_0, pvRf_28_1, pvRf_28_2, pvRf_28_3, pvRf_33_0, pvRf_33_1, pvRf_36_0, pvRf_36_1, pvE_arraylength, pvAn, pvE_icmp_ge, pvE_iastore, pvAI, pvE_iinc, pvIc_s, pvE_goto, pvE_aload_n1, pvE_invokevirtual, pvC1_s, pvC2_s, pvAf_v, pvAf_x, pvPop, pvCs, pvCat, pvPush, aX3_findMoves_53, aX3_findMoves_56, pvE_imul, pvE_iadd, pvE_ishl, pvE_istore_n3, pvE_bipush, pvE_iload_n3, aX3_findMoves_60, pvE_return, bX3_findMoves_0, uX3_findMoves_0, bX3_findMoves_2, uX3_findMoves_2, bX3_findMoves_24, uX3_findMoves_24, bX3_findMoves_26, uX3_findMoves_26, bX3_findMoves_76, uX3_findMoves_76, pvMk_t, pvMk_f, pvMk_n, pvRtG, pvRecv_r, pvUp_nl, pvUp_same, pvUp_ap, pvSt_ap, pvX_c, pvX_ms, pvX_mn, pvE_nil, pvEn_i, pvEn_r, pvEn_l, pvEn_0, pvEn_s, pvRt, pvRv, pvTh, pvKc, pvGo, pvTgt, Int.toNat_natCast, false_and, and_false, true_and, and_true, if_true, if_false, reduceIte, reduceCtorEq, forall_const, false_or, or_false, true_or, or_true, ne_eq, not_true_eq_false, not_false_eq_true, implies_true, false_implies, Nat.reduceAdd, Nat.reduceSub, Nat.reduceMul, Nat.reduceEqDiff, Nat.reduceLT, Nat.reduceLeDiff, Int.reduceAdd, Int.reduceSub, Int.reduceMul, Int.reduceNeg, Int.reduceToNat, Int.reduceLE, Int.reduceLT, Int.reduceEq, Int.reduceNe, and_self]
    (repeat' (first | with_reducible apply And.intro | intro _))
    all_goals first
      | omega
      | exact zero 648 0 z (by omega) frF_0 (fun i hi => absurd hi (Nat.not_lt_zero _))
  · exact h.elim

