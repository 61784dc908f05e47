/-- what the class holds of a list of sets: its count, the sets, their numbers -/
def csF (z : pvM) (id : Nat) (L : List Int) : Prop := z.1 id 3 = L.length ∧ liF (z.1 (id + 2)) L.length = L ∧ ∀ s : Nat, s < 16 → z.1 (id + 3) s = ixF L s
def C_X3_addSet : pvC
  | [.inr (.inr (.inl id)), .inl x], z, Q => (id = 5 ∨ id = 9) ∧ ∃ L : List Int, (csF z id L ∧ okL L ∧ 0 ≤ x ∧ x ≤ 15) ∧
      ∀ z' : pvM, frF [id, id + 2, id + 3] [] z z' → (∀ j, j ≠ 3 → z'.1 id j = z.1 id j) → csF z' id (insF L x) → Q (.inl none) z'
  | _, _, _ => False
def bX3_addSet : Nat → List (Instr × Nat)
  | 0 => [(.iload_n 1, 1), (.bipush 16, 2), (.invokestatic 68, 3), (.ifCond .eq 55, 3), (.aload_n 0, 1), (.getfield 23, 3), (.bipush 16, 2), (.invokestatic 68, 3), (.ifCond .eq 43, 3), (.aload_n 0, 1), (.getfield 20, 3), (.iload_n 1, 1), (.iaload, 1), (.iconst (-1), 1), (.if_icmp .ne 33, 3), (.aload_n 0, 1), (.getfield 20, 3), (.iload_n 1, 1), (.aload_n 0, 1), (.getfield 23, 3), (.iastore, 1), (.aload_n 0, 1), (.getfield 17, 3), (.aload_n 0, 1), (.getfield 23, 3), (.iload_n 1, 1), (.iastore, 1), (.aload_n 0, 1), (.dup, 1), (.getfield 23, 3), (.iconst 1, 1), (.iadd, 1), (.putfield 23, 3)]
  | 61 => [(.return_, 1)]
  | _ => []
def uX3_addSet : Nat → Option (List Bool)
  | _ => none
def aX3_addSet : pvCa
  | 68 => some (2, true, 0, 0, C_X9_isIndex)
  | _ => none
theorem bX3_addSet_0 : bX3_addSet 0 = [(.iload_n 1, 1), (.bipush 16, 2), (.invokestatic 68, 3), (.ifCond .eq 55, 3), (.aload_n 0, 1), (.getfield 23, 3), (.bipush 16, 2), (.invokestatic 68, 3), (.ifCond .eq 43, 3), (.aload_n 0, 1), (.getfield 20, 3), (.iload_n 1, 1), (.iaload, 1), (.iconst (-1), 1), (.if_icmp .ne 33, 3), (.aload_n 0, 1), (.getfield 20, 3), (.iload_n 1, 1), (.aload_n 0, 1), (.getfield 23, 3), (.iastore, 1), (.aload_n 0, 1), (.getfield 17, 3), (.aload_n 0, 1), (.getfield 23, 3), (.iload_n 1, 1), (.iastore, 1), (.aload_n 0, 1), (.dup, 1), (.getfield 23, 3), (.iconst 1, 1), (.iadd, 1), (.putfield 23, 3)] := rfl
theorem uX3_addSet_0 : uX3_addSet 0 = none := rfl
theorem bX3_addSet_61 : bX3_addSet 61 = [(.return_, 1)] := rfl
theorem uX3_addSet_61 : uX3_addSet 61 = none := rfl
theorem aX3_addSet_68 : aX3_addSet 68 = some (2, true, 0, 0, C_X9_isIndex) := rfl
set_option maxRecDepth 100000 in
set_option maxHeartbeats 4000000 in
theorem okX3_addSet : pvOkM fX3 aX3_addSet kX3 eX3 none bX3_addSet uX3_addSet 2 C_X3_addSet := by
  intro Q SW hc as z h hS hz
  unfold C_X3_addSet at h
  split at h
  · rename_i id x
    obtain ⟨hid, L, ⟨⟨c1, c2, c3⟩, hL, hx⟩, h2⟩ := h
    have hsh : pvSh id = Sum.inl 3 := pvSh_ps (by omega)
    have hrf1 : pvRf id 1 = id + 2 := by rcases hid with rfl | rfl <;> rfl
    have hrf2 : pvRf id 2 = id + 3 := by rcases hid with rfl | rfl <;> rfl
    have hs2 : pvSh (id + 2) = Sum.inr (0, 16) := by rcases hid with rfl | rfl <;> rfl
    have hs3 : pvSh (id + 3) = Sum.inr (0, 16) := by rcases hid with rfl | rfl <;> rfl
    have hne2 : ¬ id + 2 = 60 := by omega
    have hne3 : ¬ id + 3 = 60 := by omega
    have hne4 : ¬ id + 2 = id + 3 := by omega
    have hq2 : ¬ id = id + 2 := by omega
    have hq3 : ¬ id = id + 3 := by omega
    have h16 := okL_len hL
    have e3 := c3 x.toNat (by omega)
    rw [show ((x.toNat : Nat) : Int) = x by omega] at e3
    refine ⟨Nat.le_of_ble_eq_true rfl, hc 20 _ _ _ fun _ _ => ?_⟩
    clear hc hS hz
    simp only [pvSt1]
    simp only [C_X9_isIndex, hsh, hrf1, hrf2, hs2, hs3, hne2, hne3, hne4, hq2, hq3, c1, e3, pvE_iload_n1, pvLI_s, pvLd, pvE_bipush, pvE_invokestatic (h0 := eX3_68), pvC1_s, pvC2_s, pvAf_v, pvAf_x, pvPop, pvCs, pvCat, pvPush, aX3_addSet_68, pvE_if_eq, pvE_aload_n0, pvLA_s, pvE_getfield, pvGf_0, pvGf_1, pvGf_2, fX3_23, pvSh_0, pvSh_1, pvSh_2, pvSh_3, pvSh_4, pvSh_5, pvSh_6, pvSh_7, pvSh_8, pvSh_9, pvSh_10, pvSh_11, pvSh_12, pvSh_13, pvSh_14, pvSh_15, pvSh_16, pvSh_17, pvSh_18, pvSh_19, pvSh_20, pvSh_21, pvSh_22, pvSh_23, pvSh_24, pvSh_25, pvSh_26, pvSh_27, pvSh_28, pvSh_29, pvSh_30, pvSh_31, pvSh_32, pvSh_33, pvSh_34, pvSh_35, pvSh_36, pvSh_37, pvSh_38, pvRf_0_0, pvRf_0_1, pvRf_0_2, pvRf_0_3, pvRf_0_4, pvRf_0_5, pvRf_0_6, pvRf_0_7, pvRf_0_8, pvRf_0_9, pvRf_0_10, pvRf_1_0, pvRf_3_0, pvRf_5_0, pvRf_5_1, pvRf_5_2, pvRf_9_0, pvRf_9_1, pvRf_9_2, pvRf_13_0, pvRf_13_1, pvRf_13_2, pvRf_17_0, pvRf_17_2, pvRf_20_0, pvRf_20_1, pvRf_20_2, pvRf_24_0, pvRf_24_1, pvRf_24_2, pvRf_28_0, pvRf_28_1, pvRf_28_2, pvRf_28_3, pvRf_33_0, pvRf_33_1, pvRf_36_0, pvRf_36_1, fX3_20, pvE_iaload, pvAI, pvE_iconst, pvE_icmp_ne, pvE_iastore, fX3_17, pvE_dup_i, pvE_dup_r, pvE_iadd, pvE_putfield, pvPf_0, pvPf_1, pvE_return, bX3_addSet_0, uX3_addSet_0, bX3_addSet_61, uX3_addSet_61, pvRtG, pvRecv_r, pvUp_nl, pvUp_same, pvUp_ap, pvSt_ap, pvX_c, pvX_ms, pvX_mn, pvE_nil, pvEn_i, pvEn_r, pvEn_l, pvEn_0, pvEn_s, pvRt, pvRv, pvTh, pvKc, pvGo, pvTgt, Int.toNat_natCast, false_and, and_false, true_and, and_true, if_true, if_false, reduceIte, reduceCtorEq, forall_const, false_or, or_false, true_or, or_true, ne_eq, not_true_eq_false, not_false_eq_true, implies_true, false_implies, Nat.reduceAdd, Nat.reduceSub, Nat.reduceMul, Nat.reduceEqDiff, Nat.reduceLT, Nat.reduceLeDiff, Int.reduceAdd, Int.reduceSub, Int.reduceMul, Int.reduceNeg, Int.reduceToNat, Int.reduceLE, Int.reduceLT, Int.reduceEq, Int.reduceNe, and_self]
    by_cases hm : x ∈ L
    · have q9 := h2 z frF_0 (fun _ _ => rfl) (by unfold insF; rw [if_pos hm]; exact ⟨c1, c2, c3⟩)
      have r := ixF_r hm
      (repeat' (first | with_reducible apply And.intro | intro _))
      all_goals first
        | omega
        | exact q9
    · have hlt := okL_lt hL hx hm
      have ei : ixF L x = -1 := if_neg hm
      have q9 := h2 (pvUp (pvUp (pvUp z.1 (id + 3) x.toNat (L.length : Int)) (id + 2) L.length x) id 3 ((L.length : Int) + 1), z.2) (frF_u (frF_u (frF_u frF_0 (by simp)) (by simp)) (by simp))
        (fun j hj => by simp (disch := omega) only [pvUp_ap, if_neg])
        (by
          have e9 : insF L x = L ++ [x] := if_neg hm
          refine ⟨?_, ?_, fun s hs => ?_⟩
          · rw [e9]
            simp only [pvUp_ap, and_self, if_true, reduceIte, List.length_append, List.length_singleton, Int.natCast_add]
            rfl
          · rw [e9, List.length_append, List.length_singleton, liF_s]
            congr 1
            · rw [← c2]
              rw [liF_len]
              refine liF_e fun i hi => ?_
              simp (disch := omega) only [pvUp_ap, if_neg]
            · simp (disch := omega) only [pvUp_ap, if_neg, true_and, if_true, reduceIte]
          · rw [e9, ixF_s hm]
            by_cases es : (s : Int) = x
            · rw [if_pos es]
              simp (disch := omega) only [pvUp_ap, if_neg, true_and, if_pos]
            · rw [if_neg es, ← c3 s hs]
              simp (disch := omega) only [pvUp_ap, if_neg])
      (repeat' (first | with_reducible apply And.intro | intro _))
      all_goals first
        | omega
        | exact q9
  · exact h.elim
def C_X3_findSets : pvC
  | [.inr (.inr (.inl id))], z, Q => (id = 5 ∨ id = 9) ∧ ∃ A : Aut, (WfA A ∧ mvP (z.1 (id + 1)) A ∧ z.1 id 4 = A.2.1) ∧
      ∀ z' : pvM, frF [id, id + 2, id + 3] [] z z' → (∀ j, j ≠ 3 → z'.1 id j = z.1 id j) → csF z' id (dsF A) → Q (.inl none) z'
  | _, _, _ => False
def bX3_findSets : Nat → List (Instr × Nat)
  | 0 => [(.aload_n 0, 1), (.iconst 0, 1), (.putfield 23, 3), (.iconst 0, 1), (.istore_n 1, 1)]
  | 7 => [(.iload_n 1, 1), (.bipush 16, 2), (.if_icmp .ge 16, 3), (.aload_n 0, 1), (.getfield 20, 3), (.iload_n 1, 1), (.iconst (-1), 1), (.iastore, 1), (.iinc 1 1, 3), (.goto (-16), 3)]
  | 26 => [(.aload_n 0, 1), (.aload_n 0, 1), (.getfield 27, 3), (.invokevirtual 71, 3), (.iconst 0, 1), (.istore_n 1, 1)]
  | 36 => [(.iload_n 1, 1), (.aload_n 0, 1), (.getfield 23, 3), (.if_icmp .ge 59, 3), (.iload_n 1, 1), (.bipush 16, 2), (.if_icmp .ge 53, 3), (.iconst 0, 1), (.istore_n 2, 1)]
  | 52 => [(.iload_n 2, 1), (.iconst 3, 1), (.if_icmp .ge 40, 3), (.iconst 0, 1), (.istore_n 3, 1)]
  | 59 => [(.iload_n 3, 1), (.sipush 216, 3), (.if_icmp .ge 25, 3), (.aload_n 0, 1), (.aload_n 0, 1), (.aload_n 0, 1), (.getfield 17, 3), (.iload_n 1, 1), (.iaload, 1), (.iload_n 2, 1), (.iload_n 3, 1), (.invokevirtual 75, 3), (.invokevirtual 71, 3), (.iinc 3 1, 3), (.goto (-26), 3)]
  | 88 => [(.iinc 2 1, 3), (.goto (-39), 3)]
  | 94 => [(.iinc 1 1, 3), (.goto (-61), 3)]
  | 100 => [(.return_, 1)]
  | _ => []
def uX3_findSets : Nat → Option (List Bool)
  | 7 => some [true, true, false, false]
  | 36 => some [true, true, false, false]
  | 52 => some [true, true, true, false]
  | 59 => some [true, true, true, true]
  | _ => none
def aX3_findSets : pvCa
  | 71 => some (2, false, 3, 0, C_X3_addSet)
  | 75 => some (4, false, 3, 0, C_X3_successor)
  | _ => none
theorem bX3_findSets_0 : bX3_findSets 0 = [(.aload_n 0, 1), (.iconst 0, 1), (.putfield 23, 3), (.iconst 0, 1), (.istore_n 1, 1)] := rfl
theorem uX3_findSets_0 : uX3_findSets 0 = none := rfl
theorem bX3_findSets_7 : bX3_findSets 7 = [(.iload_n 1, 1), (.bipush 16, 2), (.if_icmp .ge 16, 3), (.aload_n 0, 1), (.getfield 20, 3), (.iload_n 1, 1), (.iconst (-1), 1), (.iastore, 1), (.iinc 1 1, 3), (.goto (-16), 3)] := rfl
theorem uX3_findSets_7 : uX3_findSets 7 = some [true, true, false, false] := rfl
theorem bX3_findSets_26 : bX3_findSets 26 = [(.aload_n 0, 1), (.aload_n 0, 1), (.getfield 27, 3), (.invokevirtual 71, 3), (.iconst 0, 1), (.istore_n 1, 1)] := rfl
theorem uX3_findSets_26 : uX3_findSets 26 = none := rfl
theorem bX3_findSets_36 : bX3_findSets 36 = [(.iload_n 1, 1), (.aload_n 0, 1), (.getfield 23, 3), (.if_icmp .ge 59, 3), (.iload_n 1, 1), (.bipush 16, 2), (.if_icmp .ge 53, 3), (.iconst 0, 1), (.istore_n 2, 1)] := rfl
theorem uX3_findSets_36 : uX3_findSets 36 = some [true, true, false, false] := rfl
theorem bX3_findSets_52 : bX3_findSets 52 = [(.iload_n 2, 1), (.iconst 3, 1), (.if_icmp .ge 40, 3), (.iconst 0, 1), (.istore_n 3, 1)] := rfl
theorem uX3_findSets_52 : uX3_findSets 52 = some [true, true, true, false] := rfl
theorem bX3_findSets_59 : bX3_findSets 59 = [(.iload_n 3, 1), (.sipush 216, 3), (.if_icmp .ge 25, 3), (.aload_n 0, 1), (.aload_n 0, 1), (.aload_n 0, 1), (.getfield 17, 3), (.iload_n 1, 1), (.iaload, 1), (.iload_n 2, 1), (.iload_n 3, 1), (.invokevirtual 75, 3), (.invokevirtual 71, 3), (.iinc 3 1, 3), (.goto (-26), 3)] := rfl
theorem uX3_findSets_59 : uX3_findSets 59 = some [true, true, true, true] := rfl
theorem bX3_findSets_88 : bX3_findSets 88 = [(.iinc 2 1, 3), (.goto (-39), 3)] := rfl
theorem uX3_findSets_88 : uX3_findSets 88 = none := rfl
theorem bX3_findSets_94 : bX3_findSets 94 = [(.iinc 1 1, 3), (.goto (-61), 3)] := rfl
theorem uX3_findSets_94 : uX3_findSets 94 = none := rfl
theorem bX3_findSets_100 : bX3_findSets 100 = [(.return_, 1)] := rfl
theorem uX3_findSets_100 : uX3_findSets 100 = none := rfl
theorem aX3_findSets_71 : aX3_findSets 71 = some (2, false, 3, 0, C_X3_addSet) := rfl
theorem aX3_findSets_75 : aX3_findSets 75 = some (4, false, 3, 0, C_X3_successor) := rfl
set_option maxRecDepth 100000 in
set_option maxHeartbeats 4000000 in
theorem okX3_findSets : pvOkM fX3 aX3_findSets kX3 eX3 none bX3_findSets uX3_findSets 4 C_X3_findSets := by
  intro Q SW hc as z h hS hz
  unfold C_X3_findSets at h
  split at h
  · rename_i id
    obtain ⟨hid, A, ⟨hw, hm, hi⟩, h2⟩ := h
    have hsh : pvSh id = Sum.inl 3 := pvSh_ps (by omega)
    have hrf1 : pvRf id 1 = id + 2 := by rcases hid with rfl | rfl <;> rfl
    have hrf2 : pvRf id 2 = id + 3 := by rcases hid with rfl | rfl <;> rfl
    have hs2 : pvSh (id + 2) = Sum.inr (0, 16) := by rcases hid with rfl | rfl <;> rfl
    have hs3 : pvSh (id + 3) = Sum.inr (0, 16) := by rcases hid with rfl | rfl <;> rfl
    have hne2 : ¬ id + 2 = 60 := by omega
    have hne3 : ¬ id + 3 = 60 := by omega
    have h1n : id + 1 ∉ [id, id + 2, id + 3] := by simp
    have hq3 : ¬ id = id + 3 := by omega
    refine ⟨Nat.le_of_ble_eq_true rfl, ?_⟩
    have outer : ∀ (m i : Nat) (z' : pvM), i + m = 16 → frF [id, id + 2, id + 3] [] z z' → (∀ j, j ≠ 3 → z'.1 id j = z.1 id j) → csF z' id (dsO A i) →
        SW 36 [some (vR id), some (vI (i : Int)), none, none] z' := by
      intro m
      induction m using Nat.strongRecOn with
      | _ m ih =>
        intro i z' hi16 f1 k1 c1
        have hok := dsO_ok hw i
        have h16 := okL_len hok
        have stop : (dsO A i).length ≤ i → Q (.inl none) z' := fun hle => h2 z' f1 k1 (by rw [dsF_stop (by omega) hle]; exact c1)
        have mid : i < (dsO A i).length → ∀ (ma a : Nat) (z' : pvM), a + ma = 3 → frF [id, id + 2, id + 3] [] z z' → (∀ j, j ≠ 3 → z'.1 id j = z.1 id j) → csF z' id (dsR A (ndF (dsO A i) i) (216 * a) (dsO A i)) →
            SW 52 [some (vR id), some (vI (i : Int)), some (vI (a : Int)), none] z' := by
          intro hil ma
          induction ma using Nat.strongRecOn with
          | _ ma iha =>
            intro a z' ha f1 k1 c1
            have inner : a < 3 → ∀ (mv v : Nat) (z' : pvM), v + mv = 216 → frF [id, id + 2, id + 3] [] z z' → (∀ j, j ≠ 3 → z'.1 id j = z.1 id j) → csF z' id (dsR A (ndF (dsO A i) i) (216 * a + v) (dsO A i)) →
                SW 59 [some (vR id), some (vI (i : Int)), some (vI (a : Int)), some (vI (v : Int))] z' := by
              intro ha3 mv
              induction mv using Nat.strongRecOn with
              | _ mv ihv =>
                intro v z' hv f1 k1 c1
                refine hc 20 _ _ _ fun _ _ => ?_
                by_cases hx : 216 ≤ v
                · have q9 := iha (ma - 1) (by omega) (a + 1) z' (by omega) f1 k1 (by rw [show 216 * (a + 1) = 216 * a + v by omega]; exact c1)
                  simp only [pvSt1]
                  simp only [C_X3_successor, C_X3_addSet, hrf1, hsh, hs2, hne2, pvE_aload_n0, pvLA_s, pvLd, pvE_iconst, pvE_putfield, pvPf_0, pvPf_1, fX3_23, pvSh_0, pvSh_1, pvSh_2, pvSh_3, pvSh_4, pvSh_5, pvSh_6, pvSh_7, pvSh_8, pvSh_9, pvSh_10, pvSh_11, pvSh_12, pvSh_13, pvSh_14, pvSh_15, pvSh_16, pvSh_17, pvSh_18, pvSh_19, pvSh_20, pvSh_21, pvSh_22, pvSh_23, pvSh_24, pvSh_25, pvSh_26, pvSh_27, pvSh_28, pvSh_29, pvSh_30, pvSh_31, pvSh_32, pvSh_33, pvSh_34, pvSh_35, pvSh_36, pvSh_37, pvSh_38, pvE_istore_n1, pvS1, List.length_cons, List.length_nil, pvClr_i, pvClr_r, pvClr_l, pvClr_d, pvClr_f, pvClr_n, pvE_iload_n1, pvLI_s, pvE_bipush, pvE_icmp_ge, pvE_getfield, pvGf_0, pvGf_1, pvGf_2, fX3_20, pvRf_0_0, pvRf_0_1, pvRf_0_2, pvRf_0_3, pvRf_0_4, pvRf_0_5, pvRf_0_6, pvRf_0_7, pvRf_0_8, pvRf_0_9, pvRf_0_10, pvRf_1_0, pvRf_3_0, pvRf_5_0, pvRf_5_1, pvRf_5_2, pvRf_9_0, pvRf_9_1, pvRf_9_2, pvRf_13_0, pvRf_13_1, pvRf_13_2, pvRf_17_0, pvRf_17_2, pvRf_20_0, pvRf_20_1, pvRf_20_2, pvRf_24_0, pvRf_24_1, pvRf_24_2, pvRf_28_0, pvRf_28_1, pvRf_28_2, pvRf_28_3, pvRf_33_0, pvRf_33_1, pvRf_36_0, pvRf_36_1, pvE_iastore, pvAI, pvE_iinc, pvIc_s, pvE_goto, fX3_27, pvE_invokevirtual, pvC1_s, pvC2_s, pvAf_v, pvAf_x, pvPop, pvCs, pvCat, pvPush, aX3_findSets_71, pvE_istore_n2, pvE_iload_n2, pvE_istore_n3, pvE_iload_n3, pvE_sipush, fX3_17, pvE_iaload, aX3_findSets_75, pvE_return, bX3_findSets_0, uX3_findSets_0, bX3_findSets_7, uX3_findSets_7, bX3_findSets_26, uX3_findSets_26, bX3_findSets_36, uX3_findSets_36, bX3_findSets_52, uX3_findSets_52, bX3_findSets_59, uX3_findSets_59, bX3_findSets_88, uX3_findSets_88, bX3_findSets_94, uX3_findSets_94, bX3_findSets_100, uX3_findSets_100, pvMk_t, pvMk_f, pvMk_n, pvRtG, pvRecv_r, pvUp_nl, pvUp_same, pvUp_ap, pvSt_ap, pvX_c, pvX_ms, pvX_mn, pvE_nil, pvEn_i, pvEn_r, pvEn_l, pvEn_0, pvEn_s, pvRt, pvRv, pvTh, pvKc, pvGo, pvTgt, Int.toNat_natCast, false_and, and_false, true_and, and_true, if_true, if_false, reduceIte, reduceCtorEq, forall_const, false_or, or_false, true_or, or_true, ne_eq, not_true_eq_false, not_false_eq_true, implies_true, false_implies, Nat.reduceAdd, Nat.reduceSub, Nat.reduceMul, Nat.reduceEqDiff, Nat.reduceLT, Nat.reduceLeDiff, Int.reduceAdd, Int.reduceSub, Int.reduceMul, Int.reduceNeg, Int.reduceToNat, Int.reduceLE, Int.reduceLT, Int.reduceEq, Int.reduceNe, and_self]
                  (repeat' (first | with_reducible apply And.intro | intro _))
                  all_goals first
                    | omega
                    | exact q9
                · have hokr := dsR_ok hw (ndF (dsO A i) i) hok (216 * a + v)
                  have g1 := f1.1 (id + 1) h1n
                  obtain ⟨M, eM⟩ := dsR_p A (ndF (dsO A i) i) (dsO A i) (216 * a + v)
                  have es : z'.1 (id + 2) i = ndF (dsO A i) i := by
                    have hl : i < (dsR A (ndF (dsO A i) i) (216 * a + v) (dsO A i)).length := by rw [eM, List.length_append]; omega
                    rw [← liF_nd (f := z'.1 (id + 2)) hl, c1.2.1]
                    rw [eM, ndF_a hil]
                  have es15 := hok.2 _ (ndF_m hil)
                  have emv := (hm a v ha3 (by omega)).1
                  have esu := su_eq hm hw (set := ndF (dsO A i) i) ha3 (show v < 216 by omega)
                  have n1 : (216 * (a : Int) + (v : Int)).toNat = 216 * a + v := by omega
                  have hsb := sbF_r hw (ndF (dsO A i) i) (a : Int) (v : Int)
                  simp only [pvSt1]
                  simp only [C_X3_successor, C_X3_addSet, hrf1, hsh, hs2, hne2, es, g1, n1, esu, pvE_aload_n0, pvLA_s, pvLd, pvE_iconst, pvE_putfield, pvPf_0, pvPf_1, fX3_23, pvSh_0, pvSh_1, pvSh_2, pvSh_3, pvSh_4, pvSh_5, pvSh_6, pvSh_7, pvSh_8, pvSh_9, pvSh_10, pvSh_11, pvSh_12, pvSh_13, pvSh_14, pvSh_15, pvSh_16, pvSh_17, pvSh_18, pvSh_19, pvSh_20, pvSh_21, pvSh_22, pvSh_23, pvSh_24, pvSh_25, pvSh_26, pvSh_27, pvSh_28, pvSh_29, pvSh_30, pvSh_31, pvSh_32, pvSh_33, pvSh_34, pvSh_35, pvSh_36, pvSh_37, pvSh_38, pvE_istore_n1, pvS1, List.length_cons, List.length_nil, pvClr_i, pvClr_r, pvClr_l, pvClr_d, pvClr_f, pvClr_n, pvE_iload_n1, pvLI_s, pvE_bipush, pvE_icmp_ge, pvE_getfield, pvGf_0, pvGf_1, pvGf_2, fX3_20, pvRf_0_0, pvRf_0_1, pvRf_0_2, pvRf_0_3, pvRf_0_4, pvRf_0_5, pvRf_0_6, pvRf_0_7, pvRf_0_8, pvRf_0_9, pvRf_0_10, pvRf_1_0, pvRf_3_0, pvRf_5_0, pvRf_5_1, pvRf_5_2, pvRf_9_0, pvRf_9_1, pvRf_9_2, pvRf_13_0, pvRf_13_1, pvRf_13_2, pvRf_17_0, pvRf_17_2, pvRf_20_0, pvRf_20_1, pvRf_20_2, pvRf_24_0, pvRf_24_1, pvRf_24_2, pvRf_28_0, pvRf_28_1, pvRf_28_2, pvRf_28_3, pvRf_33_0, pvRf_33_1, pvRf_36_0, pvRf_36_1, pvE_iastore, pvAI, pvE_iinc, pvIc_s, pvE_goto, fX3_27, pvE_invokevirtual, pvC1_s, pvC2_s, pvAf_v, pvAf_x, pvPop, pvCs, pvCat, pvPush, aX3_findSets_71, pvE_istore_n2, pvE_iload_n2, pvE_istore_n3, pvE_iload_n3, pvE_sipush, fX3_17, pvE_iaload, aX3_findSets_75, pvE_return, bX3_findSets_0, uX3_findSets_0, bX3_findSets_7, uX3_findSets_7, bX3_findSets_26, uX3_findSets_26, bX3_findSets_36, uX3_findSets_36, bX3_findSets_52, uX3_findSets_52, bX3_findSets_59, uX3_findSets_59, bX3_findSets_88, uX3_findSets_88, bX3_findSets_94, uX3_findSets_94, bX3_findSets_100, uX3_findSets_100, pvMk_t, pvMk_f, pvMk_n, pvRtG, pvRecv_r, pvUp_nl, pvUp_same, pvUp_ap, pvSt_ap, pvX_c, pvX_ms, pvX_mn, pvE_nil, pvEn_i, pvEn_r, pvEn_l, pvEn_0, pvEn_s, pvRt, pvRv, pvTh, pvKc, pvGo, pvTgt, Int.toNat_natCast, false_and, and_false, true_and, and_true, if_true, if_false, reduceIte, reduceCtorEq, forall_const, false_or, or_false, true_or, or_true, ne_eq, not_true_eq_false, not_false_eq_true, implies_true, false_implies, Nat.reduceAdd, Nat.reduceSub, Nat.reduceMul, Nat.reduceEqDiff, Nat.reduceLT, Nat.reduceLeDiff, Int.reduceAdd, Int.reduceSub, Int.reduceMul, Int.reduceNeg, Int.reduceToNat, Int.reduceLE, Int.reduceLT, Int.reduceEq, Int.reduceNe, and_self]
                  (repeat' (first | with_reducible apply And.intro | intro _))
                  all_goals first
                    | omega
                    | skip
                  all_goals
                    refine ⟨_, ⟨c1, hokr, hsb⟩, fun z1 f2 k2 c2 => ?_⟩
                    refine ⟨by omega, ihv (mv - 1) (by omega) (v + 1) z1 (by omega) (frF_t f1 f2 (fun _ h => h) (fun _ h => h)) (fun j hj => by rw [k2 j hj, k1 j hj]) ?_⟩
                    rw [← Nat.add_assoc]
                    simp only [dsR]
                    rw [show (216 * a + v) / 216 = a by omega, show (216 * a + v) % 216 = v by omega]
                    exact c2
            refine hc 20 _ _ _ fun _ _ => ?_
            simp only [pvSt1]
            simp only [pvE_aload_n0, pvLA_s, pvLd, pvE_iconst, pvE_putfield, pvPf_0, pvPf_1, fX3_23, pvSh_0, pvSh_1, pvSh_2, pvSh_3, pvSh_4, pvSh_5, pvSh_6, pvSh_7, pvSh_8, pvSh_9, pvSh_10, pvSh_11, pvSh_12, pvSh_13, pvSh_14, pvSh_15, pvSh_16, pvSh_17, pvSh_18, pvSh_19, pvSh_20, pvSh_21, pvSh_22, pvSh_23, pvSh_24, pvSh_25, pvSh_26, pvSh_27, pvSh_28, pvSh_29, pvSh_30, pvSh_31, pvSh_32, pvSh_33, pvSh_34, pvSh_35, pvSh_36, pvSh_37, pvSh_38, pvE_istore_n1, pvS1, List.length_cons, List.length_nil, pvClr_i, pvClr_r, pvClr_l, pvClr_d, pvClr_f, pvClr_n, pvE_iload_n1, pvLI_s, pvE_bipush, pvE_icmp_ge, pvE_getfield, pvGf_0, pvGf_1, pvGf_2, fX3_20, pvRf_0_0, pvRf_0_1, pvRf_0_2, pvRf_0_3, pvRf_0_4, pvRf_0_5, pvRf_0_6, pvRf_0_7, pvRf_0_8, pvRf_0_9, pvRf_0_10, pvRf_1_0, pvRf_3_0, pvRf_5_0, pvRf_5_1, pvRf_5_2, pvRf_9_0, pvRf_9_1, pvRf_9_2, pvRf_13_0, pvRf_13_1, pvRf_13_2, pvRf_17_0, pvRf_17_2, pvRf_20_0, pvRf_20_1, pvRf_20_2, pvRf_24_0, pvRf_24_1, pvRf_24_2, pvRf_28_0, pvRf_28_1, pvRf_28_2, pvRf_28_3, pvRf_33_0, pvRf_33_1, pvRf_36_0, pvRf_36_1, pvE_iastore, pvAI, pvE_iinc, pvIc_s, pvE_goto, fX3_27, pvE_invokevirtual, pvC1_s, pvC2_s, pvAf_v, pvAf_x, pvPop, pvCs, pvCat, pvPush, aX3_findSets_71, pvE_istore_n2, pvE_iload_n2, pvE_istore_n3, pvE_iload_n3, pvE_sipush, fX3_17, pvE_iaload, aX3_findSets_75, pvE_return, bX3_findSets_0, uX3_findSets_0, bX3_findSets_7, uX3_findSets_7, bX3_findSets_26, uX3_findSets_26, bX3_findSets_36, uX3_findSets_36, bX3_findSets_52, uX3_findSets_52, bX3_findSets_59, uX3_findSets_59, bX3_findSets_88, uX3_findSets_88, bX3_findSets_94, uX3_findSets_94, bX3_findSets_100, uX3_findSets_100, pvMk_t, pvMk_f, pvMk_n, pvRtG, pvRecv_r, pvUp_nl, pvUp_same, pvUp_ap, pvSt_ap, pvX_c, pvX_ms, pvX_mn, pvE_nil, pvEn_i, pvEn_r, pvEn_l, pvEn_0, pvEn_s, pvRt, pvRv, pvTh, pvKc, pvGo, pvTgt, Int.toNat_natCast, false_and, and_false, true_and, and_true, if_true, if_false, reduceIte, reduceCtorEq, forall_const, false_or, or_false, true_or, or_true, ne_eq, not_true_eq_false, not_false_eq_true, implies_true, false_implies, Nat.reduceAdd, Nat.reduceSub, Nat.reduceMul, Nat.reduceEqDiff, Nat.reduceLT, Nat.reduceLeDiff, Int.reduceAdd, Int.reduceSub, Int.reduceMul, Int.reduceNeg, Int.reduceToNat, Int.reduceLE, Int.reduceLT, Int.reduceEq, Int.reduceNe, and_self]
            by_cases hx : 3 ≤ a
            · have q9 := ih (m - 1) (by omega) (i + 1) z' (by omega) f1 k1 (by
                simp only [dsO]
                rw [if_pos hil, show 648 = 216 * a by omega]
                exact c1)
              (repeat' (first | with_reducible apply And.intro | intro _))
              all_goals first
                | omega
                | exact q9
            · have q9 := inner (by omega) 216 0 z' (by omega) f1 k1 c1
              (repeat' (first | with_reducible apply And.intro | intro _))
              all_goals first
                | omega
                | exact q9
        have ec := c1.1
        refine hc 20 _ _ _ fun _ _ => ?_
        simp only [pvSt1]
        simp only [hsh, ec, pvE_aload_n0, pvLA_s, pvLd, pvE_iconst, pvE_putfield, pvPf_0, pvPf_1, fX3_23, pvSh_0, pvSh_1, pvSh_2, pvSh_3, pvSh_4, pvSh_5, pvSh_6, pvSh_7, pvSh_8, pvSh_9, pvSh_10, pvSh_11, pvSh_12, pvSh_13, pvSh_14, pvSh_15, pvSh_16, pvSh_17, pvSh_18, pvSh_19, pvSh_20, pvSh_21, pvSh_22, pvSh_23, pvSh_24, pvSh_25, pvSh_26, pvSh_27, pvSh_28, pvSh_29, pvSh_30, pvSh_31, pvSh_32, pvSh_33, pvSh_34, pvSh_35, pvSh_36, pvSh_37, pvSh_38, pvE_istore_n1, pvS1, List.length_cons, List.length_nil, pvClr_i, pvClr_r, pvClr_l, pvClr_d, pvClr_f, pvClr_n, pvE_iload_n1, pvLI_s, pvE_bipush, pvE_icmp_ge, pvE_getfield, pvGf_0, pvGf_1, pvGf_2, fX3_20, pvRf_0_0, pvRf_0_1, pvRf_0_2, pvRf_0_3, pvRf_0_4, pvRf_0_5, pvRf_0_6, pvRf_0_7, pvRf_0_8, pvRf_0_9, pvRf_0_10, pvRf_1_0, pvRf_3_0, pvRf_5_0, pvRf_5_1, pvRf_5_2, pvRf_9_0, pvRf_9_1, pvRf_9_2, pvRf_13_0, pvRf_13_1, pvRf_13_2, pvRf_17_0, pvRf_17_2, pvRf_20_0, pvRf_20_1, pvRf_20_2, pvRf_24_0, pvRf_24_1, pvRf_24_2, pvRf_28_0, pvRf_28_1, pvRf_28_2, pvRf_28_3, pvRf_33_0, pvRf_33_1, pvRf_36_0, pvRf_36_1, pvE_iastore, pvAI, pvE_iinc, pvIc_s, pvE_goto, fX3_27, pvE_invokevirtual, pvC1_s, pvC2_s, pvAf_v, pvAf_x, pvPop, pvCs, pvCat, pvPush, aX3_findSets_71, pvE_istore_n2, pvE_iload_n2, pvE_istore_n3, pvE_iload_n3, pvE_sipush, fX3_17, pvE_iaload, aX3_findSets_75, pvE_return, bX3_findSets_0, uX3_findSets_0, bX3_findSets_7, uX3_findSets_7, bX3_findSets_26, uX3_findSets_26, bX3_findSets_36, uX3_findSets_36, bX3_findSets_52, uX3_findSets_52, bX3_findSets_59, uX3_findSets_59, bX3_findSets_88, uX3_findSets_88, bX3_findSets_94, uX3_findSets_94, bX3_findSets_100, uX3_findSets_100, pvMk_t, pvMk_f, pvMk_n, pvRtG, pvRecv_r, pvUp_nl, pvUp_same, pvUp_ap, pvSt_ap, pvX_c, pvX_ms, pvX_mn, pvE_nil, pvEn_i, pvEn_r, pvEn_l, pvEn_0, pvEn_s, pvRt, pvRv, pvTh, pvKc, pvGo, pvTgt, Int.toNat_natCast, false_and, and_false, true_and, and_true, if_true, if_false, reduceIte, reduceCtorEq, forall_const, false_or, or_false, true_or, or_true, ne_eq, not_true_eq_false, not_false_eq_true, implies_true, false_implies, Nat.reduceAdd, Nat.reduceSub, Nat.reduceMul, Nat.reduceEqDiff, Nat.reduceLT, Nat.reduceLeDiff, Int.reduceAdd, Int.reduceSub, Int.reduceMul, Int.reduceNeg, Int.reduceToNat, Int.reduceLE, Int.reduceLT, Int.reduceEq, Int.reduceNe, and_self]
        by_cases hil : i < (dsO A i).length
        · have q9 := mid hil 3 0 z' (by omega) f1 k1 c1
          (repeat' (first | with_reducible apply And.intro | intro _))
          all_goals first
            | omega
            | exact q9
        · have q9 := stop (by omega)
          (repeat' (first | with_reducible apply And.intro | intro _))
          all_goals first
            | omega
            | exact q9
    have zero : ∀ (m k : Nat) (z' : pvM), k + m = 16 → frF [id, id + 2, id + 3] [] z z' → (∀ j, j ≠ 3 → z'.1 id j = z.1 id j) → z'.1 id 3 = 0 → (∀ i : Nat, i < k → z'.1 (id + 3) i = -1) →
        SW 7 [some (vR id), some (vI (k : Int)), none, none] z' := by
      intro m
      induction m using Nat.strongRecOn with
      | _ m ih =>
        intro k z' hk f1 k1 e3 o1
        have e4 := k1 4 (by decide)
        refine hc 20 _ _ _ fun _ _ => ?_
        simp only [pvSt1]
        simp only [C_X3_addSet, hrf2, hsh, hs3, hne3, e4, hi, pvE_aload_n0, pvLA_s, pvLd, pvE_iconst, pvE_putfield, pvPf_0, pvPf_1, fX3_23, pvSh_0, pvSh_1, pvSh_2, pvSh_3, pvSh_4, pvSh_5, pvSh_6, pvSh_7, pvSh_8, pvSh_9, pvSh_10, pvSh_11, pvSh_12, pvSh_13, pvSh_14, pvSh_15, pvSh_16, pvSh_17, pvSh_18, pvSh_19, pvSh_20, pvSh_21, pvSh_22, pvSh_23, pvSh_24, pvSh_25, pvSh_26, pvSh_27, pvSh_28, pvSh_29, pvSh_30, pvSh_31, pvSh_32, pvSh_33, pvSh_34, pvSh_35, pvSh_36, pvSh_37, pvSh_38, pvE_istore_n1, pvS1, List.length_cons, List.length_nil, pvClr_i, pvClr_r, pvClr_l, pvClr_d, pvClr_f, pvClr_n, pvE_iload_n1, pvLI_s, pvE_bipush, pvE_icmp_ge, pvE_getfield, pvGf_0, pvGf_1, pvGf_2, fX3_20, pvRf_0_0, pvRf_0_1, pvRf_0_2, pvRf_0_3, pvRf_0_4, pvRf_0_5, pvRf_0_6, pvRf_0_7, pvRf_0_8, pvRf_0_9, pvRf_0_10, pvRf_1_0, pvRf_3_0, pvRf_5_0, pvRf_5_1, pvRf_5_2, pvRf_9_0, pvRf_9_1, pvRf_9_2, pvRf_13_0, pvRf_13_1, pvRf_13_2, pvRf_17_0, pvRf_17_2, pvRf_20_0, pvRf_20_1, pvRf_20_2, pvRf_24_0, pvRf_24_1, pvRf_24_2, pvRf_28_0, pvRf_28_1, pvRf_28_2, pvRf_28_3, pvRf_33_0, pvRf_33_1, pvRf_36_0, pvRf_36_1, pvE_iastore, pvAI, pvE_iinc, pvIc_s, pvE_goto, fX3_27, pvE_invokevirtual, pvC1_s, pvC2_s, pvAf_v, pvAf_x, pvPop, pvCs, pvCat, pvPush, aX3_findSets_71, pvE_istore_n2, pvE_iload_n2, pvE_istore_n3, pvE_iload_n3, pvE_sipush, fX3_17, pvE_iaload, aX3_findSets_75, pvE_return, bX3_findSets_0, uX3_findSets_0, bX3_findSets_7, uX3_findSets_7, bX3_findSets_26, uX3_findSets_26, bX3_findSets_36, uX3_findSets_36, bX3_findSets_52, uX3_findSets_52, bX3_findSets_59, uX3_findSets_59, bX3_findSets_88, uX3_findSets_88, bX3_findSets_94, uX3_findSets_94, bX3_findSets_100, uX3_findSets_100, pvMk_t, pvMk_f, pvMk_n, pvRtG, pvRecv_r, pvUp_nl, pvUp_same, pvUp_ap, pvSt_ap, pvX_c, pvX_ms, pvX_mn, pvE_nil, pvEn_i, pvEn_r, pvEn_l, pvEn_0, pvEn_s, pvRt, pvRv, pvTh, pvKc, pvGo, pvTgt, Int.toNat_natCast, false_and, and_false, true_and, and_true, if_true, if_false, reduceIte, reduceCtorEq, forall_const, false_or, or_false, true_or, or_true, ne_eq, not_true_eq_false, not_false_eq_true, implies_true, false_implies, Nat.reduceAdd, Nat.reduceSub, Nat.reduceMul, Nat.reduceEqDiff, Nat.reduceLT, Nat.reduceLeDiff, Int.reduceAdd, Int.reduceSub, Int.reduceMul, Int.reduceNeg, Int.reduceToNat, Int.reduceLE, Int.reduceLT, Int.reduceEq, Int.reduceNe, and_self]
        by_cases hx : 16 ≤ k
        · (repeat' (first | with_reducible apply And.intro | intro _))
          all_goals first
            | omega
            | skip
          all_goals
            refine ⟨[], ⟨⟨e3, rfl, fun s hs => by rw [o1 s (by omega)]; rfl⟩, ⟨List.nodup_nil, fun x hx => absurd hx List.not_mem_nil⟩, hw.2.1⟩, fun z1 f2 k2 c2 => ?_⟩
            exact ⟨by omega, outer 16 0 z1 (by omega) (frF_t f1 f2 (fun _ h => h) (fun _ h => h)) (fun j hj => by rw [k2 j hj, k1 j hj]) c2⟩
        · have q9 := ih (m - 1) (by omega) (k + 1) (pvUp z'.1 (id + 3) k (-1), z'.2) (by omega) (frF_u f1 (by simp)) (fun j hj => by simp (disch := omega) only [pvUp_ap, if_neg]; exact k1 j hj) (by simp (disch := omega) only [pvUp_ap, if_neg]; exact e3) (fun i hi => by
            simp only [pvUp_ap, true_and]
            by_cases e : i = k
            · rw [if_pos e]
            · rw [if_neg e]; exact o1 i (by omega))
          (repeat' (first | with_reducible apply And.intro | intro _))
          all_goals first
            | omega
            | exact q9
    refine hc 20 _ _ _ fun _ _ => ?_
    have q9 := zero 16 0 (pvUp z.1 id 3 0, z.2) (by omega) (frF_u frF_0 (by simp)) (fun j hj => by simp (disch := omega) only [pvUp_ap, if_neg]) (by simp [pvUp_ap]) (fun i hi => absurd hi (Nat.not_lt_zero _))
    simp only [pvSt1]
    simp only [hsh, pvE_aload_n0, pvLA_s, pvLd, pvE_iconst, pvE_putfield, pvPf_0, pvPf_1, fX3_23, pvSh_0, pvSh_1, pvSh_2, pvSh_3, pvSh_4, pvSh_5, pvSh_6, pvSh_7, pvSh_8, pvSh_9, pvSh_10, pvSh_11, pvSh_12, pvSh_13, pvSh_14, pvSh_15, pvSh_16, pvSh_17, pvSh_18, pvSh_19, pvSh_20, pvSh_21, pvSh_22, pvSh_23, pvSh_24, pvSh_25, pvSh_26, pvSh_27, pvSh_28, pvSh_29, pvSh_30, pvSh_31, pvSh_32, pvSh_33, pvSh_34, pvSh_35, pvSh_36, pvSh_37, pvSh_38, pvE_istore_n1, pvS1, List.length_cons, List.length_nil, pvClr_i, pvClr_r, pvClr_l, pvClr_d, pvClr_f, pvClr_n, pvE_iload_n1, pvLI_s, pvE_bipush, pvE_icmp_ge, pvE_getfield, pvGf_0, pvGf_1, pvGf_2, fX3_20, pvRf_0_0, pvRf_0_1, pvRf_0_2, pvRf_0_3, pvRf_0_4, pvRf_0_5, pvRf_0_6, pvRf_0_7, pvRf_0_8, pvRf_0_9, pvRf_0_10, pvRf_1_0, pvRf_3_0, pvRf_5_0, pvRf_5_1, pvRf_5_2, pvRf_9_0, pvRf_9_1, pvRf_9_2, pvRf_13_0, pvRf_13_1, pvRf_13_2, pvRf_17_0, pvRf_17_2, pvRf_20_0, pvRf_20_1, pvRf_20_2, pvRf_24_0, pvRf_24_1, pvRf_24_2, pvRf_28_0, pvRf_28_1, pvRf_28_2, pvRf_28_3, pvRf_33_0, pvRf_33_1, pvRf_36_0, pvRf_36_1, pvE_iastore, pvAI, pvE_iinc, pvIc_s, pvE_goto, fX3_27, pvE_invokevirtual, pvC1_s, pvC2_s, pvAf_v, pvAf_x, pvPop, pvCs, pvCat, pvPush, aX3_findSets_71, pvE_istore_n2, pvE_iload_n2, pvE_istore_n3, pvE_iload_n3, pvE_sipush, fX3_17, pvE_iaload, aX3_findSets_75, pvE_return, bX3_findSets_0, uX3_findSets_0, bX3_findSets_7, uX3_findSets_7, bX3_findSets_26, uX3_findSets_26, bX3_findSets_36, uX3_findSets_36, bX3_findSets_52, uX3_findSets_52, bX3_findSets_59, uX3_findSets_59, bX3_findSets_88, uX3_findSets_88, bX3_findSets_94, uX3_findSets_94, bX3_findSets_100, uX3_findSets_100, pvMk_t, pvMk_f, pvMk_n, pvRtG, pvRecv_r, pvUp_nl, pvUp_same, pvUp_ap, pvSt_ap, pvX_c, pvX_ms, pvX_mn, pvE_nil, pvEn_i, pvEn_r, pvEn_l, pvEn_0, pvEn_s, pvRt, pvRv, pvTh, pvKc, pvGo, pvTgt, Int.toNat_natCast, false_and, and_false, true_and, and_true, if_true, if_false, reduceIte, reduceCtorEq, forall_const, false_or, or_false, true_or, or_true, ne_eq, not_true_eq_false, not_false_eq_true, implies_true, false_implies, Nat.reduceAdd, Nat.reduceSub, Nat.reduceMul, Nat.reduceEqDiff, Nat.reduceLT, Nat.reduceLeDiff, Int.reduceAdd, Int.reduceSub, Int.reduceMul, Int.reduceNeg, Int.reduceToNat, Int.reduceLE, Int.reduceLT, Int.reduceEq, Int.reduceNe, and_self]
    (repeat' (first | with_reducible apply And.intro | intro _))
    all_goals first
      | omega
      | exact q9
  · exact h.elim
/-- a powerset that is right for an automaton -/
def psP (z : pvM) (id : Nat) (A : Aut) : Prop := csF z id (dsF A) ∧ z.1 id 4 = A.2.1 ∧ z.1 id 5 = A.2.2.1 ∧ mvP (z.1 (id + 1)) A
def C_X3_refresh : pvC
  | [.inr (.inr (.inl id)), .inr (.inr (.inl b))], z, Q => (id = 5 ∨ id = 9) ∧ ((b = 1 ∨ b = 3) ∧ WfC (z.1 (b + 1)) ∧ (z.1 id 6 = 0 ∨ z.1 id 6 = 1) ∧ (z.1 id 6 = 1 → psP z id (autC (z.1 (b + 1))))) ∧
      ∀ z' : pvM, frF [id, id + 1, id + 2, id + 3] [] z z' → z'.1 id 6 = 1 → psP z' id (autC (z.1 (b + 1))) → Q (.inl none) z'
  | _, _, _ => False
def bX3_refresh : Nat → List (Instr × Nat)
  | 0 => [(.aload_n 0, 1), (.getfield 33, 3), (.ifCond .eq 4, 3), (.return_, 1)]
  | 8 => [(.aload_n 0, 1), (.aload_n 1, 1), (.invokevirtual 37, 3), (.putfield 27, 3), (.aload_n 0, 1), (.aload_n 1, 1), (.invokevirtual 43, 3), (.putfield 30, 3), (.aload_n 0, 1), (.aload_n 1, 1), (.invokevirtual 46, 3), (.aload_n 0, 1), (.invokevirtual 50, 3), (.aload_n 0, 1), (.iconst 1, 1), (.putfield 33, 3), (.return_, 1)]
  | _ => []
def uX3_refresh : Nat → Option (List Bool)
  | _ => none
def aX3_refresh : pvCa
  | 37 => some (1, false, 0, 0, C_X0_initialStates)
  | 43 => some (1, false, 0, 0, C_X0_finalStates)
  | 46 => some (2, false, 3, 0, C_X3_findMoves)
  | 50 => some (1, false, 3, 0, C_X3_findSets)
  | _ => none
theorem bX3_refresh_0 : bX3_refresh 0 = [(.aload_n 0, 1), (.getfield 33, 3), (.ifCond .eq 4, 3), (.return_, 1)] := rfl
theorem uX3_refresh_0 : uX3_refresh 0 = none := rfl
theorem bX3_refresh_8 : bX3_refresh 8 = [(.aload_n 0, 1), (.aload_n 1, 1), (.invokevirtual 37, 3), (.putfield 27, 3), (.aload_n 0, 1), (.aload_n 1, 1), (.invokevirtual 43, 3), (.putfield 30, 3), (.aload_n 0, 1), (.aload_n 1, 1), (.invokevirtual 46, 3), (.aload_n 0, 1), (.invokevirtual 50, 3), (.aload_n 0, 1), (.iconst 1, 1), (.putfield 33, 3), (.return_, 1)] := rfl
theorem uX3_refresh_8 : uX3_refresh 8 = none := rfl
theorem aX3_refresh_37 : aX3_refresh 37 = some (1, false, 0, 0, C_X0_initialStates) := rfl
theorem aX3_refresh_43 : aX3_refresh 43 = some (1, false, 0, 0, C_X0_finalStates) := rfl
theorem aX3_refresh_46 : aX3_refresh 46 = some (2, false, 3, 0, C_X3_findMoves) := rfl
theorem aX3_refresh_50 : aX3_refresh 50 = some (1, false, 3, 0, C_X3_findSets) := rfl
set_option maxRecDepth 100000 in
set_option maxHeartbeats 4000000 in
theorem okX3_refresh : pvOkM fX3 aX3_refresh kX3 eX3 none bX3_refresh uX3_refresh 2 C_X3_refresh := by
  intro Q SW hc as z h hS hz
  unfold C_X3_refresh at h
  split at h
  · rename_i id b
    obtain ⟨hid, ⟨hb, hw, hf, hp⟩, h2⟩ := h
    have hsh : pvSh id = Sum.inl 3 := pvSh_ps (by omega)
    have hsb : pvSh b = Sum.inl 0 := by rcases hb with rfl | rfl <;> rfl
    have hq1 : ¬ b + 1 = id := by omega
    have hq2 : ¬ id + 1 = id := by omega
    refine ⟨Nat.le_of_ble_eq_true rfl, hc 20 _ _ _ fun _ _ => ?_⟩
    clear hc hS hz
    simp only [pvSt1]
    simp only [C_X0_initialStates, C_X0_finalStates, C_X3_findMoves, C_X3_findSets, hsh, hq1, pvE_aload_n0, pvLA_s, pvLd, pvE_getfield, pvGf_0, pvGf_1, pvGf_2, fX3_33, pvSh_0, pvSh_1, pvSh_2, pvSh_3, pvSh_4, pvSh_5, pvSh_6, pvSh_7, pvSh_8, pvSh_9, pvSh_10, pvSh_11, pvSh_12, pvSh_13, pvSh_14, pvSh_15, pvSh_16, pvSh_17, pvSh_18, pvSh_19, pvSh_20, pvSh_21, pvSh_22, pvSh_23, pvSh_24, pvSh_25, pvSh_26, pvSh_27, pvSh_28, pvSh_29, pvSh_30, pvSh_31, pvSh_32, pvSh_33, pvSh_34, pvSh_35, pvSh_36, pvSh_37, pvSh_38, pvRf_0_0, pvRf_0_1, pvRf_0_2, pvRf_0_3, pvRf_0_4, pvRf_0_5, pvRf_0_6, pvRf_0_7, pvRf_0_8, pvRf_0_9, pvRf_0_10, pvRf_1_0, pvRf_3_0, pvRf_5_0, pvRf_5_1, pvRf_5_2, pvRf_9_0, pvRf_9_1, pvRf_9_2, pvRf_13_0, pvRf_13_1, pvRf_13_2, pvRf_17_0, pvRf_17_2, pvRf_20_0, pvRf_20_1, pvRf_20_2, pvRf_24_0, pvRf_24_1, pvRf_24_2, pvRf_28_0, pvRf_28_1, pvRf_28_2, pvRf_28_3, pvRf_33_0, pvRf_33_1, pvRf_36_0, pvRf_36_1, pvE_if_eq, pvE_return, pvE_aload_n1, pvE_invokevirtual, pvC1_s, pvC2_s, pvAf_v, pvAf_x, pvPop, pvCs, pvCat, pvPush, aX3_refresh_37, pvE_putfield, pvPf_0, pvPf_1, fX3_27, aX3_refresh_43, fX3_30, aX3_refresh_46, aX3_refresh_50, pvE_iconst, bX3_refresh_0, uX3_refresh_0, bX3_refresh_8, uX3_refresh_8, pvRtG, pvRecv_r, pvUp_nl, pvUp_same, pvUp_ap, pvSt_ap, pvX_c, pvX_ms, pvX_mn, pvE_nil, pvEn_i, pvEn_r, pvEn_l, pvEn_0, pvEn_s, pvRt, pvRv, pvTh, pvKc, pvGo, pvTgt, Int.toNat_natCast, false_and, and_false, true_and, and_true, if_true, if_false, reduceIte, reduceCtorEq, forall_const, false_or, or_false, true_or, or_true, ne_eq, not_true_eq_false, not_false_eq_true, implies_true, false_implies, Nat.reduceAdd, Nat.reduceSub, Nat.reduceMul, Nat.reduceEqDiff, Nat.reduceLT, Nat.reduceLeDiff, Int.reduceAdd, Int.reduceSub, Int.reduceMul, Int.reduceNeg, Int.reduceToNat, Int.reduceLE, Int.reduceLT, Int.reduceEq, Int.reduceNe, and_self]
    rcases hf with hf | hf
    · (repeat' (first | with_reducible apply And.intro | intro _))
      all_goals first
        | omega
        | assumption
        | contradiction
        | skip
      all_goals
        rename_i z1 f1 m1
        refine ⟨autC (z.1 (b + 1)), ⟨hw.1, m1, ?_⟩, fun z2 f2 k2 c2 => ⟨by omega, by omega, ?_⟩⟩
        · rw [f1.1 id (by simp)]
          simp only [pvUp_ap, Nat.reduceEqDiff, and_false, and_self, if_true, if_false, reduceIte]
          rfl
        · have g4 : z1.1 id 4 = z.1 (b + 1) 1 := by rw [f1.1 id (by simp)]; simp [pvUp_ap]
          have g5 : z1.1 id 5 = z.1 (b + 1) 2 := by rw [f1.1 id (by simp)]; simp [pvUp_ap]
          refine h2 (pvUp z2.1 id 6 1, z2.2) (frF_u (frF_t (frF_t (frF_u (frF_u frF_0 (by simp)) (by simp)) f1 (by simp) (by simp)) f2 (by simp) (by simp)) (by simp)) (by simp [pvUp_ap]) ⟨⟨?_, ?_, fun s hs => ?_⟩, ?_, ?_, ?_⟩
          · simp only [pvUp_ap, Nat.reduceEqDiff, and_false, if_false, reduceIte]; exact c2.1
          · simp (disch := omega) only [pvUp_nl]; exact c2.2.1
          · simp (disch := omega) only [pvUp_nl]; exact c2.2.2 s hs
          · simp only [pvUp_ap, Nat.reduceEqDiff, and_false, if_false, reduceIte]; rw [k2 4 (by decide), g4]; rfl
          · simp only [pvUp_ap, Nat.reduceEqDiff, and_false, if_false, reduceIte]; rw [k2 5 (by decide), g5]; rfl
          · simp (disch := omega) only [pvUp_nl]; rw [f2.1 (id + 1) (by simp)]; exact m1
    · have q9 := h2 z frF_0 hf (hp hf)
      (repeat' (first | with_reducible apply And.intro | intro _))
      all_goals first
        | omega
        | assumption
        | contradiction
  · exact h.elim

