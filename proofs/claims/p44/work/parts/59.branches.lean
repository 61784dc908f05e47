def brK (A : Aut) (s a : Int) : Nat → List Int
  | 0 => []
  | k + 1 => insF (brK A s a k) (sbF A s a (k : Nat))
/-- 216, and not a numeral -/
noncomputable def nVal : Nat := Classical.choose (⟨216, rfl⟩ : ∃ n : Nat, n = 216)
theorem nVal_eq : nVal = 216 := Classical.choose_spec (⟨216, rfl⟩ : ∃ n : Nat, n = 216)
noncomputable def brF (A : Aut) (s a : Int) : List Int := brK A s a nVal
def cvK (A : Aut) (s a t : Int) : Nat → Int
  | 0 => 0
  | k + 1 => cvK A s a t k + (if sbF A s a (k : Nat) = t then 1 else 0)
theorem brK_ok {A : Aut} (hw : WfA A) (s a : Int) (k : Nat) : okL (brK A s a k) := by
  induction k with
  | zero => exact ⟨List.nodup_nil, fun x hx => absurd hx List.not_mem_nil⟩
  | succ k ih => exact insF_ok ih (sbF_r hw _ _ _)
theorem brK_p (A : Aut) (s a : Int) (k j : Nat) : ∃ M, brK A s a (k + j) = brK A s a k ++ M := by
  induction j with
  | zero => exact ⟨[], (List.append_nil _).symm⟩
  | succ j ih =>
    obtain ⟨M, e⟩ := ih
    obtain ⟨M', e'⟩ := insF_p (brK A s a (k + j)) (sbF A s a ((k + j : Nat) : Int))
    exact ⟨M ++ M', by rw [← Nat.add_assoc]; simp only [brK]; rw [e', e, List.append_assoc]⟩
theorem brK_m {A : Aut} {s a x : Int} {k : Nat} : x ∈ brK A s a k ↔ ∃ v, v < k ∧ sbF A s a (v : Nat) = x := by
  induction k with
  | zero => simp [brK]
  | succ k ih =>
    simp only [brK]
    rw [insF_m, ih]
    constructor
    · rintro (⟨v, h1, h2⟩ | h)
      · exact ⟨v, by omega, h2⟩
      · exact ⟨k, by omega, h.symm⟩
    · rintro ⟨v, h1, h2⟩
      by_cases e : v = k
      · subst e; exact Or.inr h2.symm
      · exact Or.inl ⟨v, by omega, h2⟩
theorem cvK_0 {A : Aut} {s a t : Int} {k : Nat} (h : t ∉ brK A s a k) : cvK A s a t k = 0 := by
  induction k with
  | zero => rfl
  | succ k ih =>
    simp only [brK, insF_m] at h
    simp only [cvK]
    rw [ih (fun q => h (Or.inl q)), if_neg (fun e => h (Or.inr e.symm))]
    rfl
theorem cvK_r (A : Aut) (s a t : Int) (k : Nat) : 0 ≤ cvK A s a t k ∧ cvK A s a t k ≤ k := by
  induction k with
  | zero => exact ⟨Int.le_refl _, Int.le_refl _⟩
  | succ k ih => simp only [cvK]; split <;> omega
theorem pcK_or {n n' j : Nat} (h : ∀ i, n'.testBit i = (n.testBit i || decide (i = j))) (k : Nat) : pcK n' k = pcK n k + (if j < k ∧ n.testBit j = false then 1 else 0) := by
  induction k with
  | zero => simp [pcK]
  | succ k ih =>
    simp only [pcK]
    rw [ih, h k]
    by_cases e : k = j
    · subst e
      rw [if_neg (by omega)]
      cases n.testBit k <;> simp
    · rw [decide_eq_false e, Bool.or_false]
      have e3 : (j < k + 1 ∧ n.testBit j = false) ↔ (j < k ∧ n.testBit j = false) := ⟨fun q => ⟨by omega, q.2⟩, fun q => ⟨by omega, q.2⟩⟩
      simp only [e3]
      omega
/-- a list of sets as bits -/
def seP (x : Int) (L : List Int) : Prop := (0 ≤ x ∧ x ≤ 65535) ∧ (∀ i : Nat, x.toNat.testBit i = decide ((i : Int) ∈ L)) ∧ pcF x = L.length
theorem seP_0 : seP 0 [] := ⟨by decide, fun i => by simp, by decide⟩
theorem seP_s {x : Int} {L : List Int} (h : seP x L) {j : Int} (hj : 0 ≤ j ∧ j ≤ 15) : seP (pvOr x (pvShl 1 j)) (insF L j) := by
  obtain ⟨h1, h2, h3⟩ := h
  obtain ⟨o1, o2⟩ := or_bit h1 hj
  refine ⟨o1, fun i => ?_, ?_⟩
  · rw [o2, h2, Bool.eq_iff_iff, Bool.or_eq_true, decide_eq_true_iff, decide_eq_true_iff, decide_eq_true_iff, insF_m]
    constructor
    · rintro (h | h)
      · exact Or.inl h
      · exact Or.inr (by omega)
    · rintro (h | h)
      · exact Or.inl h
      · exact Or.inr (by omega)
  · have e := pcK_or o2 16
    have hb := h2 j.toNat
    rw [show ((j.toNat : Nat) : Int) = j by omega] at hb
    unfold pcF at h3 ⊢
    rw [e, Int.natCast_add, h3, hb]
    unfold insF
    by_cases hm : j ∈ L
    · rw [if_pos hm, if_neg (by simp [hm])]; simp
    · rw [if_neg hm, if_pos ⟨by omega, by simp [hm]⟩]; simp
theorem psP_set {z : pvM} {id : Nat} {A : Aut} (h : psP z id A) {i : Nat} (hi : i < (dsF A).length) : z.1 (id + 2) i = ndF (dsF A) i := by
  rw [← liF_nd (f := z.1 (id + 2)) hi, h.1.2.1]
def C_X3_setAt : pvC
  | [.inr (.inr (.inl id)), .inl i], z, Q => (id = 5 ∨ id = 9) ∧ (0 ≤ i ∧ i ≤ 15) ∧ Q (.inl (some (vI (z.1 (id + 2) i.toNat)))) z
  | _, _, _ => False
def bX3_setAt : Nat → List (Instr × Nat)
  | 0 => [(.iload_n 1, 1), (.bipush 16, 2), (.invokestatic 68, 3), (.ifCond .eq 12, 3), (.aload_n 0, 1), (.getfield 17, 3), (.iload_n 1, 1), (.iaload, 1), (.goto 4, 3)]
  | 18 => [(.iconst 0, 1)]
  | 19 => [(.ireturn, 1)]
  | _ => []
def uX3_setAt : Nat → Option (List Bool)
  | _ => none
def aX3_setAt : pvCa
  | 68 => some (2, true, 0, 0, C_X9_isIndex)
  | _ => none
theorem bX3_setAt_0 : bX3_setAt 0 = [(.iload_n 1, 1), (.bipush 16, 2), (.invokestatic 68, 3), (.ifCond .eq 12, 3), (.aload_n 0, 1), (.getfield 17, 3), (.iload_n 1, 1), (.iaload, 1), (.goto 4, 3)] := rfl
theorem uX3_setAt_0 : uX3_setAt 0 = none := rfl
theorem bX3_setAt_18 : bX3_setAt 18 = [(.iconst 0, 1)] := rfl
theorem uX3_setAt_18 : uX3_setAt 18 = none := rfl
theorem bX3_setAt_19 : bX3_setAt 19 = [(.ireturn, 1)] := rfl
theorem uX3_setAt_19 : uX3_setAt 19 = none := rfl
theorem aX3_setAt_68 : aX3_setAt 68 = some (2, true, 0, 0, C_X9_isIndex) := rfl
set_option maxRecDepth 100000 in
set_option maxHeartbeats 4000000 in
theorem okX3_setAt : pvOkM fX3 aX3_setAt kX3 eX3 (some .int) bX3_setAt uX3_setAt 2 C_X3_setAt := by
  intro Q SW hc as z h hS hz
  unfold C_X3_setAt at h
  split at h
  · rename_i id i
    obtain ⟨hid, h⟩ := h
    refine ⟨Nat.le_of_ble_eq_true rfl, hc 20 _ _ _ fun _ _ => ?_⟩
    clear hc hS
    rcases hid with rfl | rfl <;>
    (try simp only [Nat.reduceAdd] at h) <;>
    (simp only [pvSt1]
     simp only [C_X9_isIndex, pvE_iload_n1, pvLI_s, pvLd, pvE_bipush, pvE_invokestatic (h0 := eX3_68), pvC1_s, pvC2_s, pvAf_v, pvAf_x, pvPop, pvCs, pvCat, pvPush, aX3_setAt_68, pvE_if_eq, pvE_aload_n0, pvLA_s, pvE_getfield, pvGf_0, pvGf_1, pvGf_2, fX3_17, pvSh_0, pvSh_1, pvSh_2, pvSh_3, pvSh_4, pvSh_5, pvSh_6, pvSh_7, pvSh_8, pvSh_9, pvSh_10, pvSh_11, pvSh_12, pvSh_13, pvSh_14, pvSh_15, pvSh_16, pvSh_17, pvSh_18, pvSh_19, pvSh_20, pvSh_21, pvSh_22, pvSh_23, pvSh_24, pvSh_25, pvSh_26, pvSh_27, pvSh_28, pvSh_29, pvSh_30, pvSh_31, pvSh_32, pvSh_33, pvSh_34, pvSh_35, pvSh_36, pvSh_37, pvSh_38, pvRf_0_0, pvRf_0_1, pvRf_0_2, pvRf_0_3, pvRf_0_4, pvRf_0_5, pvRf_0_6, pvRf_0_7, pvRf_0_8, pvRf_0_9, pvRf_0_10, pvRf_1_0, pvRf_3_0, pvRf_5_0, pvRf_5_1, pvRf_5_2, pvRf_9_0, pvRf_9_1, pvRf_9_2, pvRf_13_0, pvRf_13_1, pvRf_13_2, pvRf_17_0, pvRf_17_2, pvRf_20_0, pvRf_20_1, pvRf_20_2, pvRf_24_0, pvRf_24_1, pvRf_24_2, pvRf_28_0, pvRf_28_1, pvRf_28_2, pvRf_28_3, pvRf_33_0, pvRf_33_1, pvRf_36_0, pvRf_36_1, pvE_iaload, pvAI, pvE_goto, pvE_iconst, pvE_ireturn, bX3_setAt_0, uX3_setAt_0, bX3_setAt_18, uX3_setAt_18, bX3_setAt_19, uX3_setAt_19, pvRtG, pvRecv_r, pvUp_nl, pvUp_same, pvUp_ap, pvSt_ap, pvX_c, pvX_ms, pvX_mn, pvE_nil, pvEn_i, pvEn_r, pvEn_l, pvEn_0, pvEn_s, pvRt, pvRv, pvTh, pvKc, pvGo, pvTgt, Int.toNat_natCast, false_and, and_false, true_and, and_true, if_true, if_false, reduceIte, reduceCtorEq, forall_const, false_or, or_false, true_or, or_true, ne_eq, not_true_eq_false, not_false_eq_true, implies_true, false_implies, Nat.reduceAdd, Nat.reduceSub, Nat.reduceMul, Nat.reduceEqDiff, Nat.reduceLT, Nat.reduceLeDiff, Int.reduceAdd, Int.reduceSub, Int.reduceMul, Int.reduceNeg, Int.reduceToNat, Int.reduceLE, Int.reduceLT, Int.reduceEq, Int.reduceNe, and_self]
     grind)
  · exact h.elim
def C_X3_numberOf : pvC
  | [.inr (.inr (.inl id)), .inl i], z, Q => (id = 5 ∨ id = 9) ∧ (0 ≤ i ∧ i ≤ 15) ∧ Q (.inl (some (vI (z.1 (id + 3) i.toNat)))) z
  | _, _, _ => False
def bX3_numberOf : Nat → List (Instr × Nat)
  | 0 => [(.iload_n 1, 1), (.bipush 16, 2), (.invokestatic 68, 3), (.ifCond .eq 12, 3), (.aload_n 0, 1), (.getfield 20, 3), (.iload_n 1, 1), (.iaload, 1), (.goto 4, 3)]
  | 18 => [(.iconst (-1), 1)]
  | 19 => [(.ireturn, 1)]
  | _ => []
def uX3_numberOf : Nat → Option (List Bool)
  | _ => none
def aX3_numberOf : pvCa
  | 68 => some (2, true, 0, 0, C_X9_isIndex)
  | _ => none
theorem bX3_numberOf_0 : bX3_numberOf 0 = [(.iload_n 1, 1), (.bipush 16, 2), (.invokestatic 68, 3), (.ifCond .eq 12, 3), (.aload_n 0, 1), (.getfield 20, 3), (.iload_n 1, 1), (.iaload, 1), (.goto 4, 3)] := rfl
theorem uX3_numberOf_0 : uX3_numberOf 0 = none := rfl
theorem bX3_numberOf_18 : bX3_numberOf 18 = [(.iconst (-1), 1)] := rfl
theorem uX3_numberOf_18 : uX3_numberOf 18 = none := rfl
theorem bX3_numberOf_19 : bX3_numberOf 19 = [(.ireturn, 1)] := rfl
theorem uX3_numberOf_19 : uX3_numberOf 19 = none := rfl
theorem aX3_numberOf_68 : aX3_numberOf 68 = some (2, true, 0, 0, C_X9_isIndex) := rfl
set_option maxRecDepth 100000 in
set_option maxHeartbeats 4000000 in
theorem okX3_numberOf : pvOkM fX3 aX3_numberOf kX3 eX3 (some .int) bX3_numberOf uX3_numberOf 2 C_X3_numberOf := by
  intro Q SW hc as z h hS hz
  unfold C_X3_numberOf at h
  split at h
  · rename_i id i
    obtain ⟨hid, h⟩ := h
    refine ⟨Nat.le_of_ble_eq_true rfl, hc 20 _ _ _ fun _ _ => ?_⟩
    clear hc hS
    rcases hid with rfl | rfl <;>
    (try simp only [Nat.reduceAdd] at h) <;>
    (simp only [pvSt1]
     simp only [C_X9_isIndex, pvE_iload_n1, pvLI_s, pvLd, pvE_bipush, pvE_invokestatic (h0 := eX3_68), pvC1_s, pvC2_s, pvAf_v, pvAf_x, pvPop, pvCs, pvCat, pvPush, aX3_numberOf_68, pvE_if_eq, pvE_aload_n0, pvLA_s, pvE_getfield, pvGf_0, pvGf_1, pvGf_2, fX3_20, pvSh_0, pvSh_1, pvSh_2, pvSh_3, pvSh_4, pvSh_5, pvSh_6, pvSh_7, pvSh_8, pvSh_9, pvSh_10, pvSh_11, pvSh_12, pvSh_13, pvSh_14, pvSh_15, pvSh_16, pvSh_17, pvSh_18, pvSh_19, pvSh_20, pvSh_21, pvSh_22, pvSh_23, pvSh_24, pvSh_25, pvSh_26, pvSh_27, pvSh_28, pvSh_29, pvSh_30, pvSh_31, pvSh_32, pvSh_33, pvSh_34, pvSh_35, pvSh_36, pvSh_37, pvSh_38, pvRf_0_0, pvRf_0_1, pvRf_0_2, pvRf_0_3, pvRf_0_4, pvRf_0_5, pvRf_0_6, pvRf_0_7, pvRf_0_8, pvRf_0_9, pvRf_0_10, pvRf_1_0, pvRf_3_0, pvRf_5_0, pvRf_5_1, pvRf_5_2, pvRf_9_0, pvRf_9_1, pvRf_9_2, pvRf_13_0, pvRf_13_1, pvRf_13_2, pvRf_17_0, pvRf_17_2, pvRf_20_0, pvRf_20_1, pvRf_20_2, pvRf_24_0, pvRf_24_1, pvRf_24_2, pvRf_28_0, pvRf_28_1, pvRf_28_2, pvRf_28_3, pvRf_33_0, pvRf_33_1, pvRf_36_0, pvRf_36_1, pvE_iaload, pvAI, pvE_goto, pvE_iconst, pvE_ireturn, bX3_numberOf_0, uX3_numberOf_0, bX3_numberOf_18, uX3_numberOf_18, bX3_numberOf_19, uX3_numberOf_19, pvRtG, pvRecv_r, pvUp_nl, pvUp_same, pvUp_ap, pvSt_ap, pvX_c, pvX_ms, pvX_mn, pvE_nil, pvEn_i, pvEn_r, pvEn_l, pvEn_0, pvEn_s, pvRt, pvRv, pvTh, pvKc, pvGo, pvTgt, Int.toNat_natCast, false_and, and_false, true_and, and_true, if_true, if_false, reduceIte, reduceCtorEq, forall_const, false_or, or_false, true_or, or_true, ne_eq, not_true_eq_false, not_false_eq_true, implies_true, false_implies, Nat.reduceAdd, Nat.reduceSub, Nat.reduceMul, Nat.reduceEqDiff, Nat.reduceLT, Nat.reduceLeDiff, Int.reduceAdd, Int.reduceSub, Int.reduceMul, Int.reduceNeg, Int.reduceToNat, Int.reduceLE, Int.reduceLT, Int.reduceEq, Int.reduceNe, and_self]
     grind)
  · exact h.elim
def C_X3_countBranches : pvC
  | [.inr (.inr (.inl id)), .inl i, .inl a], z, Q => (id = 5 ∨ id = 9) ∧ ∃ A : Aut, (WfA A ∧ psP z id A ∧ (0 ≤ i ∧ i < (dsF A).length) ∧ 0 ≤ a ∧ a ≤ 2) ∧ Q (.inl (some (vI ((brF A (ndF (dsF A) i.toNat) a).length : Int)))) z
  | _, _, _ => False
def bX3_countBranches : Nat → List (Instr × Nat)
  | 0 => [(.aload_n 0, 1), (.iload_n 1, 1), (.invokevirtual 79, 3), (.istore_n 3, 1), (.iconst 0, 1), (.istore 4, 2), (.iconst 0, 1), (.istore 5, 2)]
  | 12 => [(.iload 5, 2), (.sipush 216, 3), (.if_icmp .ge 24, 3), (.iload 4, 2), (.iconst 1, 1), (.aload_n 0, 1), (.iload_n 3, 1), (.iload_n 2, 1), (.iload 5, 2), (.invokevirtual 75, 3), (.ishl, 1), (.ior, 1), (.istore 4, 2), (.iinc 5 1, 3), (.goto (-26), 3)]
  | 41 => [(.iload 4, 2), (.invokestatic 83, 3), (.ireturn, 1)]
  | _ => []
def uX3_countBranches : Nat → Option (List Bool)
  | 12 => some [true, false, true, true, true, true]
  | _ => none
def aX3_countBranches : pvCa
  | 75 => some (4, false, 3, 0, C_X3_successor)
  | 79 => some (2, false, 3, 0, C_X3_setAt)
  | 83 => some (1, true, 0, 0, C_J6_bitCount_0f7a4)
  | _ => none
theorem bX3_countBranches_0 : bX3_countBranches 0 = [(.aload_n 0, 1), (.iload_n 1, 1), (.invokevirtual 79, 3), (.istore_n 3, 1), (.iconst 0, 1), (.istore 4, 2), (.iconst 0, 1), (.istore 5, 2)] := rfl
theorem uX3_countBranches_0 : uX3_countBranches 0 = none := rfl
theorem bX3_countBranches_12 : bX3_countBranches 12 = [(.iload 5, 2), (.sipush 216, 3), (.if_icmp .ge 24, 3), (.iload 4, 2), (.iconst 1, 1), (.aload_n 0, 1), (.iload_n 3, 1), (.iload_n 2, 1), (.iload 5, 2), (.invokevirtual 75, 3), (.ishl, 1), (.ior, 1), (.istore 4, 2), (.iinc 5 1, 3), (.goto (-26), 3)] := rfl
theorem uX3_countBranches_12 : uX3_countBranches 12 = some [true, false, true, true, true, true] := rfl
theorem bX3_countBranches_41 : bX3_countBranches 41 = [(.iload 4, 2), (.invokestatic 83, 3), (.ireturn, 1)] := rfl
theorem uX3_countBranches_41 : uX3_countBranches 41 = none := rfl
theorem aX3_countBranches_75 : aX3_countBranches 75 = some (4, false, 3, 0, C_X3_successor) := rfl
theorem aX3_countBranches_79 : aX3_countBranches 79 = some (2, false, 3, 0, C_X3_setAt) := rfl
theorem aX3_countBranches_83 : aX3_countBranches 83 = some (1, true, 0, 0, C_J6_bitCount_0f7a4) := rfl
set_option maxRecDepth 100000 in
set_option maxHeartbeats 4000000 in
theorem okX3_countBranches : pvOkM fX3 aX3_countBranches kX3 eX3 (some .int) bX3_countBranches uX3_countBranches 6 C_X3_countBranches := by
  intro Q SW hc as z h hS hz
  unfold C_X3_countBranches at h
  split at h
  · rename_i id i a
    obtain ⟨hid, A, ⟨hw, hp, hi, ha⟩, h2⟩ := h
    have hsh : pvSh id = Sum.inl 3 := pvSh_ps (by omega)
    have hok := dsF_ok hw
    have h16 := okL_len hok
    have es := psP_set hp (i := i.toNat) (by omega)
    have es15 := hok.2 _ (ndF_m (i := i.toNat) (by omega))
    obtain ⟨s, e⟩ : ∃ s, ndF (dsF A) i.toNat = s := ⟨_, rfl⟩
    obtain ⟨a, rfl⟩ : ∃ n : Nat, a = n := ⟨a.toNat, by omega⟩
    rw [e] at es es15 h2
    have hN := nVal_eq
    refine ⟨Nat.le_of_ble_eq_true rfl, ?_⟩
    have loop : ∀ (m k : Nat) (x : Int), k + m = nVal → seP x (brK A s a k) → SW 12 [some (vR id), none, some (vI (a : Int)), some (vI s), some (vI x), some (vI (k : Int))] z := by
      intro m
      induction m using Nat.strongRecOn with
      | _ m ih =>
        intro k x hk hx
        refine hc 20 _ _ _ fun _ _ => ?_
        have hx1 := hx.1
        by_cases hx4 : nVal ≤ k
        · have q9 := h2
          unfold brF at q9
          rw [show nVal = k by omega, ← hx.2.2] at q9
          simp only [pvSt1]
          simp only [C_J6_bitCount_0f7a4, pvE_aload_n0, pvLA_s, pvLd, pvE_iload_n1, pvLI_s, pvE_invokevirtual, pvC1_s, pvC2_s, pvAf_v, pvAf_x, pvPop, pvCs, pvCat, pvPush, aX3_countBranches_79, pvSh_0, pvSh_1, pvSh_2, pvSh_3, pvSh_4, pvSh_5, pvSh_6, pvSh_7, pvSh_8, pvSh_9, pvSh_10, pvSh_11, pvSh_12, pvSh_13, pvSh_14, pvSh_15, pvSh_16, pvSh_17, pvSh_18, pvSh_19, pvSh_20, pvSh_21, pvSh_22, pvSh_23, pvSh_24, pvSh_25, pvSh_26, pvSh_27, pvSh_28, pvSh_29, pvSh_30, pvSh_31, pvSh_32, pvSh_33, pvSh_34, pvSh_35, pvSh_36, pvSh_37, pvSh_38, pvE_istore_n3, pvS1, List.length_cons, List.length_nil, pvClr_i, pvClr_r, pvClr_l, pvClr_d, pvClr_f, pvClr_n, pvE_iconst, pvE_istore, pvE_iload, pvE_sipush, pvE_icmp_ge, pvE_iload_n3, pvE_iload_n2, aX3_countBranches_75, pvE_ishl, pvE_ior, pvE_iinc, pvIc_s, pvE_goto, pvE_invokestatic (h0 := eX3_83), aX3_countBranches_83, pvE_ireturn, bX3_countBranches_0, uX3_countBranches_0, bX3_countBranches_12, uX3_countBranches_12, bX3_countBranches_41, uX3_countBranches_41, pvMk_t, pvMk_f, pvMk_n, pvRtG, pvRecv_r, pvUp_nl, pvUp_same, pvUp_ap, pvSt_ap, pvX_c, pvX_ms, pvX_mn, pvE_nil, pvEn_i, pvEn_r, pvEn_l, pvEn_0, pvEn_s, pvRt, pvRv, pvTh, pvKc, pvGo, pvTgt, Int.toNat_natCast, false_and, and_false, true_and, and_true, if_true, if_false, reduceIte, reduceCtorEq, forall_const, false_or, or_false, true_or, or_true, ne_eq, not_true_eq_false, not_false_eq_true, implies_true, false_implies, Nat.reduceAdd, Nat.reduceSub, Nat.reduceMul, Nat.reduceEqDiff, Nat.reduceLT, Nat.reduceLeDiff, Int.reduceAdd, Int.reduceSub, Int.reduceMul, Int.reduceNeg, Int.reduceToNat, Int.reduceLE, Int.reduceLT, Int.reduceEq, Int.reduceNe, and_self]
          (repeat' first | with_reducible apply And.intro | with_reducible intro _)
          all_goals first
            | omega
            | exact q9
        · have emv := (hp.2.2.2 a k (by omega) (by omega)).1
          have esu := su_eq hp.2.2.2 hw (set := s) (show a < 3 by omega) (show k < 216 by omega)
          have n1 : (216 * (a : Int) + (k : Int)).toNat = 216 * a + k := by omega
          have hsb := sbF_r hw s (a : Int) (k : Int)
          have q9 := ih (m - 1) (by omega) (k + 1) _ (by omega) (seP_s hx hsb)
          simp only [pvSt1]
          simp only [C_X3_successor, hsh, n1, esu, pvE_aload_n0, pvLA_s, pvLd, pvE_iload_n1, pvLI_s, pvE_invokevirtual, pvC1_s, pvC2_s, pvAf_v, pvAf_x, pvPop, pvCs, pvCat, pvPush, aX3_countBranches_79, pvSh_0, pvSh_1, pvSh_2, pvSh_3, pvSh_4, pvSh_5, pvSh_6, pvSh_7, pvSh_8, pvSh_9, pvSh_10, pvSh_11, pvSh_12, pvSh_13, pvSh_14, pvSh_15, pvSh_16, pvSh_17, pvSh_18, pvSh_19, pvSh_20, pvSh_21, pvSh_22, pvSh_23, pvSh_24, pvSh_25, pvSh_26, pvSh_27, pvSh_28, pvSh_29, pvSh_30, pvSh_31, pvSh_32, pvSh_33, pvSh_34, pvSh_35, pvSh_36, pvSh_37, pvSh_38, pvE_istore_n3, pvS1, List.length_cons, List.length_nil, pvClr_i, pvClr_r, pvClr_l, pvClr_d, pvClr_f, pvClr_n, pvE_iconst, pvE_istore, pvE_iload, pvE_sipush, pvE_icmp_ge, pvE_iload_n3, pvE_iload_n2, aX3_countBranches_75, pvE_ishl, pvE_ior, pvE_iinc, pvIc_s, pvE_goto, pvE_invokestatic (h0 := eX3_83), aX3_countBranches_83, pvE_ireturn, bX3_countBranches_0, uX3_countBranches_0, bX3_countBranches_12, uX3_countBranches_12, bX3_countBranches_41, uX3_countBranches_41, pvMk_t, pvMk_f, pvMk_n, pvRtG, pvRecv_r, pvUp_nl, pvUp_same, pvUp_ap, pvSt_ap, pvX_c, pvX_ms, pvX_mn, pvE_nil, pvEn_i, pvEn_r, pvEn_l, pvEn_0, pvEn_s, pvRt, pvRv, pvTh, pvKc, pvGo, pvTgt, Int.toNat_natCast, false_and, and_false, true_and, and_true, if_true, if_false, reduceIte, reduceCtorEq, forall_const, false_or, or_false, true_or, or_true, ne_eq, not_true_eq_false, not_false_eq_true, implies_true, false_implies, Nat.reduceAdd, Nat.reduceSub, Nat.reduceMul, Nat.reduceEqDiff, Nat.reduceLT, Nat.reduceLeDiff, Int.reduceAdd, Int.reduceSub, Int.reduceMul, Int.reduceNeg, Int.reduceToNat, Int.reduceLE, Int.reduceLT, Int.reduceEq, Int.reduceNe, and_self]
          (repeat' first | with_reducible apply And.intro | with_reducible intro _)
          all_goals first
            | omega
            | exact q9
    refine hc 20 _ _ _ fun _ _ => ?_
    simp only [pvSt1]
    simp only [C_X3_setAt, hsh, es, pvE_aload_n0, pvLA_s, pvLd, pvE_iload_n1, pvLI_s, pvE_invokevirtual, pvC1_s, pvC2_s, pvAf_v, pvAf_x, pvPop, pvCs, pvCat, pvPush, aX3_countBranches_79, pvSh_0, pvSh_1, pvSh_2, pvSh_3, pvSh_4, pvSh_5, pvSh_6, pvSh_7, pvSh_8, pvSh_9, pvSh_10, pvSh_11, pvSh_12, pvSh_13, pvSh_14, pvSh_15, pvSh_16, pvSh_17, pvSh_18, pvSh_19, pvSh_20, pvSh_21, pvSh_22, pvSh_23, pvSh_24, pvSh_25, pvSh_26, pvSh_27, pvSh_28, pvSh_29, pvSh_30, pvSh_31, pvSh_32, pvSh_33, pvSh_34, pvSh_35, pvSh_36, pvSh_37, pvSh_38, pvE_istore_n3, pvS1, List.length_cons, List.length_nil, pvClr_i, pvClr_r, pvClr_l, pvClr_d, pvClr_f, pvClr_n, pvE_iconst, pvE_istore, pvE_iload, pvE_sipush, pvE_icmp_ge, pvE_iload_n3, pvE_iload_n2, aX3_countBranches_75, pvE_ishl, pvE_ior, pvE_iinc, pvIc_s, pvE_goto, pvE_invokestatic (h0 := eX3_83), aX3_countBranches_83, pvE_ireturn, bX3_countBranches_0, uX3_countBranches_0, bX3_countBranches_12, uX3_countBranches_12, bX3_countBranches_41, uX3_countBranches_41, pvMk_t, pvMk_f, pvMk_n, pvRtG, pvRecv_r, pvUp_nl, pvUp_same, pvUp_ap, pvSt_ap, pvX_c, pvX_ms, pvX_mn, pvE_nil, pvEn_i, pvEn_r, pvEn_l, pvEn_0, pvEn_s, pvRt, pvRv, pvTh, pvKc, pvGo, pvTgt, Int.toNat_natCast, false_and, and_false, true_and, and_true, if_true, if_false, reduceIte, reduceCtorEq, forall_const, false_or, or_false, true_or, or_true, ne_eq, not_true_eq_false, not_false_eq_true, implies_true, false_implies, Nat.reduceAdd, Nat.reduceSub, Nat.reduceMul, Nat.reduceEqDiff, Nat.reduceLT, Nat.reduceLeDiff, Int.reduceAdd, Int.reduceSub, Int.reduceMul, Int.reduceNeg, Int.reduceToNat, Int.reduceLE, Int.reduceLT, Int.reduceEq, Int.reduceNe, and_self]
    (repeat' first | with_reducible apply And.intro | with_reducible intro _)
    all_goals first
      | omega
      | exact loop nVal 0 0 (by omega) seP_0
  · exact h.elim
noncomputable def baK (A : Aut) : Nat → Int
  | 0 => 0
  | i + 1 => baK A i + (brF A (ndF (dsF A) i) 0).length + (brF A (ndF (dsF A) i) 1).length + (brF A (ndF (dsF A) i) 2).length
theorem brF_len {A : Aut} (hw : WfA A) (s a : Int) : (brF A s a).length ≤ 16 := okL_len (brK_ok hw s a nVal)
theorem baK_r {A : Aut} (hw : WfA A) (i : Nat) : 0 ≤ baK A i ∧ baK A i ≤ 48 * i := by
  induction i with
  | zero => exact ⟨Int.le_refl _, Int.le_refl _⟩
  | succ i ih =>
    have h0 := brF_len hw (ndF (dsF A) i) 0
    have h1 := brF_len hw (ndF (dsF A) i) 1
    have h2 := brF_len hw (ndF (dsF A) i) 2
    simp only [baK]
    generalize (brF A (ndF (dsF A) i) 0).length = l0 at *
    generalize (brF A (ndF (dsF A) i) 1).length = l1 at *
    generalize (brF A (ndF (dsF A) i) 2).length = l2 at *
    omega
def C_X3_countAllBranches : pvC
  | [.inr (.inr (.inl id))], z, Q => (id = 5 ∨ id = 9) ∧ ∃ A : Aut, (WfA A ∧ psP z id A) ∧ Q (.inl (some (vI (baK A (dsF A).length)))) z
  | _, _, _ => False
def bX3_countAllBranches : Nat → List (Instr × Nat)
  | 0 => [(.iconst 0, 1), (.istore_n 1, 1), (.iconst 0, 1), (.istore_n 2, 1)]
  | 4 => [(.iload_n 2, 1), (.aload_n 0, 1), (.getfield 23, 3), (.if_icmp .ge 31, 3), (.iconst 0, 1), (.istore_n 3, 1)]
  | 14 => [(.iload_n 3, 1), (.iconst 3, 1), (.if_icmp .ge 18, 3), (.iload_n 1, 1), (.aload_n 0, 1), (.iload_n 2, 1), (.iload_n 3, 1), (.invokevirtual 88, 3), (.iadd, 1), (.istore_n 1, 1), (.iinc 3 1, 3), (.goto (-17), 3)]
  | 34 => [(.iinc 2 1, 3), (.goto (-33), 3)]
  | 40 => [(.iload_n 1, 1), (.ireturn, 1)]
  | _ => []
def uX3_countAllBranches : Nat → Option (List Bool)
  | 4 => some [true, true, true, false]
  | 14 => some [true, true, true, true]
  | _ => none
def aX3_countAllBranches : pvCa
  | 88 => some (3, false, 3, 0, C_X3_countBranches)
  | _ => none
theorem bX3_countAllBranches_0 : bX3_countAllBranches 0 = [(.iconst 0, 1), (.istore_n 1, 1), (.iconst 0, 1), (.istore_n 2, 1)] := rfl
theorem uX3_countAllBranches_0 : uX3_countAllBranches 0 = none := rfl
theorem bX3_countAllBranches_4 : bX3_countAllBranches 4 = [(.iload_n 2, 1), (.aload_n 0, 1), (.getfield 23, 3), (.if_icmp .ge 31, 3), (.iconst 0, 1), (.istore_n 3, 1)] := rfl
theorem uX3_countAllBranches_4 : uX3_countAllBranches 4 = some [true, true, true, false] := rfl
theorem bX3_countAllBranches_14 : bX3_countAllBranches 14 = [(.iload_n 3, 1), (.iconst 3, 1), (.if_icmp .ge 18, 3), (.iload_n 1, 1), (.aload_n 0, 1), (.iload_n 2, 1), (.iload_n 3, 1), (.invokevirtual 88, 3), (.iadd, 1), (.istore_n 1, 1), (.iinc 3 1, 3), (.goto (-17), 3)] := rfl
theorem uX3_countAllBranches_14 : uX3_countAllBranches 14 = some [true, true, true, true] := rfl
theorem bX3_countAllBranches_34 : bX3_countAllBranches 34 = [(.iinc 2 1, 3), (.goto (-33), 3)] := rfl
theorem uX3_countAllBranches_34 : uX3_countAllBranches 34 = none := rfl
theorem bX3_countAllBranches_40 : bX3_countAllBranches 40 = [(.iload_n 1, 1), (.ireturn, 1)] := rfl
theorem uX3_countAllBranches_40 : uX3_countAllBranches 40 = none := rfl
theorem aX3_countAllBranches_88 : aX3_countAllBranches 88 = some (3, false, 3, 0, C_X3_countBranches) := rfl
set_option maxRecDepth 100000 in
set_option maxHeartbeats 4000000 in
theorem okX3_countAllBranches : pvOkM fX3 aX3_countAllBranches kX3 eX3 (some .int) bX3_countAllBranches uX3_countAllBranches 4 C_X3_countAllBranches := by
  intro Q SW hc as z h hS hz
  unfold C_X3_countAllBranches at h
  split at h
  · rename_i id
    obtain ⟨hid, A, ⟨hw, hp⟩, h2⟩ := h
    have hsh : pvSh id = Sum.inl 3 := pvSh_ps (by omega)
    have h16 := okL_len (dsF_ok hw)
    have ec := hp.1.1
    refine ⟨Nat.le_of_ble_eq_true rfl, ?_⟩
    have outer : ∀ (m i : Nat), i + m = (dsF A).length → SW 4 [some (vR id), some (vI (baK A i)), some (vI (i : Int)), none] z := by
      intro m
      induction m using Nat.strongRecOn with
      | _ m ih =>
        intro i hi
        have hb := baK_r hw i
        have inner : i < (dsF A).length → ∀ (ma a : Nat) (x : Int), a + ma = 3 → x = baK A i + (if 0 < a then ((brF A (ndF (dsF A) i) 0).length : Int) else 0) + (if 1 < a then ((brF A (ndF (dsF A) i) 1).length : Int) else 0) + (if 2 < a then ((brF A (ndF (dsF A) i) 2).length : Int) else 0) →
            SW 14 [some (vR id), some (vI x), some (vI (i : Int)), some (vI (a : Int))] z := by
          intro hil ma
          induction ma using Nat.strongRecOn with
          | _ ma iha =>
            intro a x ha hx
            have h0 := brF_len hw (ndF (dsF A) i) 0
            have h1 := brF_len hw (ndF (dsF A) i) 1
            have h2 := brF_len hw (ndF (dsF A) i) 2
            have hxr : 0 ≤ x ∧ x ≤ 48 * i + 48 := by rw [hx]; (repeat' split) <;> omega
            refine hc 20 _ _ _ fun _ _ => ?_
            simp only [pvSt1]
            simp only [C_X3_countBranches, hsh, pvE_iconst, pvE_istore_n1, pvS1, List.length_cons, List.length_nil, pvClr_i, pvClr_r, pvClr_l, pvClr_d, pvClr_f, pvClr_n, pvE_istore_n2, pvE_iload_n2, pvLI_s, pvLd, pvE_aload_n0, pvLA_s, pvE_getfield, pvGf_0, pvGf_1, pvGf_2, fX3_23, pvSh_0, pvSh_1, pvSh_2, pvSh_3, pvSh_4, pvSh_5, pvSh_6, pvSh_7, pvSh_8, pvSh_9, pvSh_10, pvSh_11, pvSh_12, pvSh_13, pvSh_14, pvSh_15, pvSh_16, pvSh_17, pvSh_18, pvSh_19, pvSh_20, pvSh_21, pvSh_22, pvSh_23, pvSh_24, pvSh_25, pvSh_26, pvSh_27, pvSh_28, pvSh_29, pvSh_30, pvSh_31, pvSh_32, pvSh_33, pvSh_34, pvSh_35, pvSh_36, pvSh_37, pvSh_38, pvRf_0_0, pvRf_0_1, pvRf_0_2, pvRf_0_3, pvRf_0_4, pvRf_0_5, pvRf_0_6, pvRf_0_7, pvRf_0_8, pvRf_0_9, pvRf_0_10, pvRf_1_0, pvRf_3_0, pvRf_5_0, pvRf_5_1, pvRf_5_2, pvRf_9_0, pvRf_9_1, pvRf_9_2, pvRf_13_0, pvRf_13_1, pvRf_13_2, pvRf_17_0, pvRf_17_2, pvRf_20_0, pvRf_20_1, pvRf_20_2, pvRf_24_0, pvRf_24_1, pvRf_24_2, pvRf_28_0, pvRf_28_1, pvRf_28_2, pvRf_28_3, pvRf_33_0, pvRf_33_1, pvRf_36_0, pvRf_36_1, pvE_icmp_ge, pvE_istore_n3, pvE_iload_n3, pvE_iload_n1, pvE_invokevirtual, pvC1_s, pvC2_s, pvAf_v, pvAf_x, pvPop, pvCs, pvCat, pvPush, aX3_countAllBranches_88, pvE_iadd, pvE_iinc, pvIc_s, pvE_goto, pvE_ireturn, bX3_countAllBranches_0, uX3_countAllBranches_0, bX3_countAllBranches_4, uX3_countAllBranches_4, bX3_countAllBranches_14, uX3_countAllBranches_14, bX3_countAllBranches_34, uX3_countAllBranches_34, bX3_countAllBranches_40, uX3_countAllBranches_40, pvMk_t, pvMk_f, pvMk_n, pvRtG, pvRecv_r, pvUp_nl, pvUp_same, pvUp_ap, pvSt_ap, pvX_c, pvX_ms, pvX_mn, pvE_nil, pvEn_i, pvEn_r, pvEn_l, pvEn_0, pvEn_s, pvRt, pvRv, pvTh, pvKc, pvGo, pvTgt, Int.toNat_natCast, false_and, and_false, true_and, and_true, if_true, if_false, reduceIte, reduceCtorEq, forall_const, false_or, or_false, true_or, or_true, ne_eq, not_true_eq_false, not_false_eq_true, implies_true, false_implies, Nat.reduceAdd, Nat.reduceSub, Nat.reduceMul, Nat.reduceEqDiff, Nat.reduceLT, Nat.reduceLeDiff, Int.reduceAdd, Int.reduceSub, Int.reduceMul, Int.reduceNeg, Int.reduceToNat, Int.reduceLE, Int.reduceLT, Int.reduceEq, Int.reduceNe, and_self]
            by_cases hx3 : 3 ≤ a
            · have q9 := ih (m - 1) (by omega) (i + 1) (by omega)
              rw [show baK A (i + 1) = x by rw [hx, if_pos (by omega), if_pos (by omega), if_pos (by omega)]; rfl] at q9
              (repeat' first | with_reducible apply And.intro | with_reducible intro _)
              all_goals first
                | omega
                | exact q9
            · have q9 := iha (ma - 1) (by omega) (a + 1) (x + ((brF A (ndF (dsF A) i) (a : Int)).length : Int)) (by omega) (by
                rw [hx]
                rcases (show a = 0 ∨ a = 1 ∨ a = 2 by omega) with rfl | rfl | rfl <;> simp)
              have hla := brF_len hw (ndF (dsF A) i) (a : Int)
              (repeat' first | with_reducible apply And.intro | with_reducible intro _)
              all_goals first
                | omega
                | skip
              all_goals
                refine ⟨A, ⟨hw, hp, by omega, by omega⟩, ?_⟩
                first
                  | exact q9
                  | exact ⟨by omega, q9⟩
                  | exact ⟨by omega, by omega, q9⟩
        refine hc 20 _ _ _ fun _ _ => ?_
        simp only [pvSt1]
        simp only [hsh, ec, pvE_iconst, pvE_istore_n1, pvS1, List.length_cons, List.length_nil, pvClr_i, pvClr_r, pvClr_l, pvClr_d, pvClr_f, pvClr_n, pvE_istore_n2, pvE_iload_n2, pvLI_s, pvLd, pvE_aload_n0, pvLA_s, pvE_getfield, pvGf_0, pvGf_1, pvGf_2, fX3_23, pvSh_0, pvSh_1, pvSh_2, pvSh_3, pvSh_4, pvSh_5, pvSh_6, pvSh_7, pvSh_8, pvSh_9, pvSh_10, pvSh_11, pvSh_12, pvSh_13, pvSh_14, pvSh_15, pvSh_16, pvSh_17, pvSh_18, pvSh_19, pvSh_20, pvSh_21, pvSh_22, pvSh_23, pvSh_24, pvSh_25, pvSh_26, pvSh_27, pvSh_28, pvSh_29, pvSh_30, pvSh_31, pvSh_32, pvSh_33, pvSh_34, pvSh_35, pvSh_36, pvSh_37, pvSh_38, pvRf_0_0, pvRf_0_1, pvRf_0_2, pvRf_0_3, pvRf_0_4, pvRf_0_5, pvRf_0_6, pvRf_0_7, pvRf_0_8, pvRf_0_9, pvRf_0_10, pvRf_1_0, pvRf_3_0, pvRf_5_0, pvRf_5_1, pvRf_5_2, pvRf_9_0, pvRf_9_1, pvRf_9_2, pvRf_13_0, pvRf_13_1, pvRf_13_2, pvRf_17_0, pvRf_17_2, pvRf_20_0, pvRf_20_1, pvRf_20_2, pvRf_24_0, pvRf_24_1, pvRf_24_2, pvRf_28_0, pvRf_28_1, pvRf_28_2, pvRf_28_3, pvRf_33_0, pvRf_33_1, pvRf_36_0, pvRf_36_1, pvE_icmp_ge, pvE_istore_n3, pvE_iload_n3, pvE_iload_n1, pvE_invokevirtual, pvC1_s, pvC2_s, pvAf_v, pvAf_x, pvPop, pvCs, pvCat, pvPush, aX3_countAllBranches_88, pvE_iadd, pvE_iinc, pvIc_s, pvE_goto, pvE_ireturn, bX3_countAllBranches_0, uX3_countAllBranches_0, bX3_countAllBranches_4, uX3_countAllBranches_4, bX3_countAllBranches_14, uX3_countAllBranches_14, bX3_countAllBranches_34, uX3_countAllBranches_34, bX3_countAllBranches_40, uX3_countAllBranches_40, pvMk_t, pvMk_f, pvMk_n, pvRtG, pvRecv_r, pvUp_nl, pvUp_same, pvUp_ap, pvSt_ap, pvX_c, pvX_ms, pvX_mn, pvE_nil, pvEn_i, pvEn_r, pvEn_l, pvEn_0, pvEn_s, pvRt, pvRv, pvTh, pvKc, pvGo, pvTgt, Int.toNat_natCast, false_and, and_false, true_and, and_true, if_true, if_false, reduceIte, reduceCtorEq, forall_const, false_or, or_false, true_or, or_true, ne_eq, not_true_eq_false, not_false_eq_true, implies_true, false_implies, Nat.reduceAdd, Nat.reduceSub, Nat.reduceMul, Nat.reduceEqDiff, Nat.reduceLT, Nat.reduceLeDiff, Int.reduceAdd, Int.reduceSub, Int.reduceMul, Int.reduceNeg, Int.reduceToNat, Int.reduceLE, Int.reduceLT, Int.reduceEq, Int.reduceNe, and_self]
        by_cases hil : i < (dsF A).length
        · have q9 := inner hil 3 0 (baK A i) (by omega) (by simp)
          (repeat' first | with_reducible apply And.intro | with_reducible intro _)
          all_goals first
            | omega
            | exact q9
        · obtain rfl : i = (dsF A).length := by omega
          (repeat' first | with_reducible apply And.intro | with_reducible intro _)
          all_goals first
            | omega
            | exact h2
    refine hc 20 _ _ _ fun _ _ => ?_
    simp only [pvSt1]
    simp only [pvE_iconst, pvE_istore_n1, pvS1, List.length_cons, List.length_nil, pvClr_i, pvClr_r, pvClr_l, pvClr_d, pvClr_f, pvClr_n, pvE_istore_n2, pvE_iload_n2, pvLI_s, pvLd, pvE_aload_n0, pvLA_s, pvE_getfield, pvGf_0, pvGf_1, pvGf_2, fX3_23, pvSh_0, pvSh_1, pvSh_2, pvSh_3, pvSh_4, pvSh_5, pvSh_6, pvSh_7, pvSh_8, pvSh_9, pvSh_10, pvSh_11, pvSh_12, pvSh_13, pvSh_14, pvSh_15, pvSh_16, pvSh_17, pvSh_18, pvSh_19, pvSh_20, pvSh_21, pvSh_22, pvSh_23, pvSh_24, pvSh_25, pvSh_26, pvSh_27, pvSh_28, pvSh_29, pvSh_30, pvSh_31, pvSh_32, pvSh_33, pvSh_34, pvSh_35, pvSh_36, pvSh_37, pvSh_38, pvRf_0_0, pvRf_0_1, pvRf_0_2, pvRf_0_3, pvRf_0_4, pvRf_0_5, pvRf_0_6, pvRf_0_7, pvRf_0_8, pvRf_0_9, pvRf_0_10, pvRf_1_0, pvRf_3_0, pvRf_5_0, pvRf_5_1, pvRf_5_2, pvRf_9_0, pvRf_9_1, pvRf_9_2, pvRf_13_0, pvRf_13_1, pvRf_13_2, pvRf_17_0, pvRf_17_2, pvRf_20_0, pvRf_20_1, pvRf_20_2, pvRf_24_0, pvRf_24_1, pvRf_24_2, pvRf_28_0, pvRf_28_1, pvRf_28_2, pvRf_28_3, pvRf_33_0, pvRf_33_1, pvRf_36_0, pvRf_36_1, pvE_icmp_ge, pvE_istore_n3, pvE_iload_n3, pvE_iload_n1, pvE_invokevirtual, pvC1_s, pvC2_s, pvAf_v, pvAf_x, pvPop, pvCs, pvCat, pvPush, aX3_countAllBranches_88, pvE_iadd, pvE_iinc, pvIc_s, pvE_goto, pvE_ireturn, bX3_countAllBranches_0, uX3_countAllBranches_0, bX3_countAllBranches_4, uX3_countAllBranches_4, bX3_countAllBranches_14, uX3_countAllBranches_14, bX3_countAllBranches_34, uX3_countAllBranches_34, bX3_countAllBranches_40, uX3_countAllBranches_40, pvMk_t, pvMk_f, pvMk_n, pvRtG, pvRecv_r, pvUp_nl, pvUp_same, pvUp_ap, pvSt_ap, pvX_c, pvX_ms, pvX_mn, pvE_nil, pvEn_i, pvEn_r, pvEn_l, pvEn_0, pvEn_s, pvRt, pvRv, pvTh, pvKc, pvGo, pvTgt, Int.toNat_natCast, false_and, and_false, true_and, and_true, if_true, if_false, reduceIte, reduceCtorEq, forall_const, false_or, or_false, true_or, or_true, ne_eq, not_true_eq_false, not_false_eq_true, implies_true, false_implies, Nat.reduceAdd, Nat.reduceSub, Nat.reduceMul, Nat.reduceEqDiff, Nat.reduceLT, Nat.reduceLeDiff, Int.reduceAdd, Int.reduceSub, Int.reduceMul, Int.reduceNeg, Int.reduceToNat, Int.reduceLE, Int.reduceLT, Int.reduceEq, Int.reduceNe, and_self]
    (repeat' first | with_reducible apply And.intro | with_reducible intro _)
    all_goals first
      | omega
      | exact outer (dsF A).length 0 (by omega)
  · exact h.elim
def C_X3_branchSet : pvC
  | [.inr (.inr (.inl id)), .inl i, .inl a, .inl b], z, Q => (id = 5 ∨ id = 9) ∧ ∃ A : Aut, (WfA A ∧ psP z id A ∧ (0 ≤ i ∧ i < (dsF A).length) ∧ (0 ≤ a ∧ a ≤ 2) ∧ 0 ≤ b ∧ b < (brF A (ndF (dsF A) i.toNat) a).length) ∧ Q (.inl (some (vI (ndF (brF A (ndF (dsF A) i.toNat) a) b.toNat)))) z
  | _, _, _ => False
def bX3_branchSet : Nat → List (Instr × Nat)
  | 0 => [(.aload_n 0, 1), (.iload_n 1, 1), (.invokevirtual 79, 3), (.istore 4, 2), (.iconst 0, 1), (.istore 5, 2), (.iconst 0, 1), (.istore 6, 2), (.iconst 0, 1), (.istore 7, 2)]
  | 16 => [(.iload 7, 2), (.sipush 216, 3), (.if_icmp .ge 51, 3), (.aload_n 0, 1), (.iload 4, 2), (.iload_n 2, 1), (.iload 7, 2), (.invokevirtual 75, 3), (.istore 8, 2), (.iload 5, 2), (.iload 8, 2), (.ishr, 1), (.iconst 1, 1), (.iand, 1), (.ifCond .ne 24, 3), (.iload 6, 2), (.iload_n 3, 1), (.if_icmp .ne 6, 3), (.iload 8, 2), (.ireturn, 1)]
  | 54 => [(.iload 5, 2), (.iconst 1, 1), (.iload 8, 2), (.ishl, 1), (.ior, 1), (.istore 5, 2), (.iinc 6 1, 3)]
  | 66 => [(.iinc 7 1, 3), (.goto (-53), 3)]
  | 72 => [(.iconst (-1), 1), (.ireturn, 1)]
  | _ => []
def uX3_branchSet : Nat → Option (List Bool)
  | 16 => some [true, false, true, true, true, true, true, true, false]
  | _ => none
def aX3_branchSet : pvCa
  | 75 => some (4, false, 3, 0, C_X3_successor)
  | 79 => some (2, false, 3, 0, C_X3_setAt)
  | _ => none
theorem bX3_branchSet_0 : bX3_branchSet 0 = [(.aload_n 0, 1), (.iload_n 1, 1), (.invokevirtual 79, 3), (.istore 4, 2), (.iconst 0, 1), (.istore 5, 2), (.iconst 0, 1), (.istore 6, 2), (.iconst 0, 1), (.istore 7, 2)] := rfl
theorem uX3_branchSet_0 : uX3_branchSet 0 = none := rfl
theorem bX3_branchSet_16 : bX3_branchSet 16 = [(.iload 7, 2), (.sipush 216, 3), (.if_icmp .ge 51, 3), (.aload_n 0, 1), (.iload 4, 2), (.iload_n 2, 1), (.iload 7, 2), (.invokevirtual 75, 3), (.istore 8, 2), (.iload 5, 2), (.iload 8, 2), (.ishr, 1), (.iconst 1, 1), (.iand, 1), (.ifCond .ne 24, 3), (.iload 6, 2), (.iload_n 3, 1), (.if_icmp .ne 6, 3), (.iload 8, 2), (.ireturn, 1)] := rfl
theorem uX3_branchSet_16 : uX3_branchSet 16 = some [true, false, true, true, true, true, true, true, false] := rfl
theorem bX3_branchSet_54 : bX3_branchSet 54 = [(.iload 5, 2), (.iconst 1, 1), (.iload 8, 2), (.ishl, 1), (.ior, 1), (.istore 5, 2), (.iinc 6 1, 3)] := rfl
theorem uX3_branchSet_54 : uX3_branchSet 54 = none := rfl
theorem bX3_branchSet_66 : bX3_branchSet 66 = [(.iinc 7 1, 3), (.goto (-53), 3)] := rfl
theorem uX3_branchSet_66 : uX3_branchSet 66 = none := rfl
theorem bX3_branchSet_72 : bX3_branchSet 72 = [(.iconst (-1), 1), (.ireturn, 1)] := rfl
theorem uX3_branchSet_72 : uX3_branchSet 72 = none := rfl
theorem aX3_branchSet_75 : aX3_branchSet 75 = some (4, false, 3, 0, C_X3_successor) := rfl
theorem aX3_branchSet_79 : aX3_branchSet 79 = some (2, false, 3, 0, C_X3_setAt) := rfl
set_option maxRecDepth 100000 in
set_option maxHeartbeats 4000000 in
theorem okX3_branchSet : pvOkM fX3 aX3_branchSet kX3 eX3 (some .int) bX3_branchSet uX3_branchSet 9 C_X3_branchSet := by
  intro Q SW hc as z h hS hz
  unfold C_X3_branchSet at h
  split at h
  · rename_i id i a b
    obtain ⟨hid, A, ⟨hw, hp, hi, ha, hb⟩, h2⟩ := h
    have hsh : pvSh id = Sum.inl 3 := pvSh_ps (by omega)
    have hok := dsF_ok hw
    have h16 := okL_len hok
    have es := psP_set hp (i := i.toNat) (by omega)
    have es15 := hok.2 _ (ndF_m (i := i.toNat) (by omega))
    obtain ⟨s, e⟩ : ∃ s, ndF (dsF A) i.toNat = s := ⟨_, rfl⟩
    obtain ⟨a, rfl⟩ : ∃ n : Nat, a = n := ⟨a.toNat, by omega⟩
    obtain ⟨b, rfl⟩ : ∃ n : Nat, b = n := ⟨b.toNat, by omega⟩
    rw [e] at es es15 h2 hb
    rw [Int.toNat_natCast] at h2
    have hbl := brF_len hw s a
    have hN := nVal_eq
    refine ⟨Nat.le_of_ble_eq_true rfl, ?_⟩
    have loop : ∀ (m k : Nat) (x : Int), k + m = nVal → seP x (brK A s a k) → (brK A s a k).length ≤ b → SW 16 [some (vR id), none, some (vI (a : Int)), some (vI (b : Int)), some (vI s), some (vI x), some (vI ((brK A s a k).length : Int)), some (vI (k : Int)), none] z := by
      intro m
      induction m using Nat.strongRecOn with
      | _ m ih =>
        intro k x hk hx hle
        refine hc 20 _ _ _ fun _ _ => ?_
        have hx1 := hx.1
        by_cases hx4 : nVal ≤ k
        · exfalso
          unfold brF at hb
          rw [show nVal = k by omega] at hb
          omega
        · have emv := (hp.2.2.2 a k (by omega) (by omega)).1
          have esu := su_eq hp.2.2.2 hw (set := s) (show a < 3 by omega) (show k < 216 by omega)
          have n1 : (216 * (a : Int) + (k : Int)).toNat = 216 * a + k := by omega
          have hsb := sbF_r hw s (a : Int) (k : Int)
          have hbe := bt_eq (s := x) (q := sbF A s a k) (by omega)
          have hbt : btF x (sbF A s a k) = decide (sbF A s a k ∈ brK A s a k) := by
            have := hx.2.1 (sbF A s a k).toNat
            rw [show (((sbF A s a k).toNat : Nat) : Int) = sbF A s a k by omega] at this
            exact this
          have hse := seP_s hx hsb
          simp only [pvSt1]
          simp only [C_X3_successor, hsh, n1, esu, hbe, hbt, pvE_aload_n0, pvLA_s, pvLd, pvE_iload_n1, pvLI_s, pvE_invokevirtual, pvC1_s, pvC2_s, pvAf_v, pvAf_x, pvPop, pvCs, pvCat, pvPush, aX3_branchSet_79, pvSh_0, pvSh_1, pvSh_2, pvSh_3, pvSh_4, pvSh_5, pvSh_6, pvSh_7, pvSh_8, pvSh_9, pvSh_10, pvSh_11, pvSh_12, pvSh_13, pvSh_14, pvSh_15, pvSh_16, pvSh_17, pvSh_18, pvSh_19, pvSh_20, pvSh_21, pvSh_22, pvSh_23, pvSh_24, pvSh_25, pvSh_26, pvSh_27, pvSh_28, pvSh_29, pvSh_30, pvSh_31, pvSh_32, pvSh_33, pvSh_34, pvSh_35, pvSh_36, pvSh_37, pvSh_38, pvE_istore, pvS1, List.length_cons, List.length_nil, pvClr_i, pvClr_r, pvClr_l, pvClr_d, pvClr_f, pvClr_n, pvE_iconst, pvE_iload, pvE_sipush, pvE_icmp_ge, pvE_iload_n2, aX3_branchSet_75, pvE_ishr, pvE_iand, pvE_if_ne, pvE_iload_n3, pvE_icmp_ne, pvE_ireturn, pvE_ishl, pvE_ior, pvE_iinc, pvIc_s, pvE_goto, bX3_branchSet_0, uX3_branchSet_0, bX3_branchSet_16, uX3_branchSet_16, bX3_branchSet_54, uX3_branchSet_54, bX3_branchSet_66, uX3_branchSet_66, bX3_branchSet_72, uX3_branchSet_72, pvMk_t, pvMk_f, pvMk_n, pvRtG, pvRecv_r, pvUp_nl, pvUp_same, pvUp_ap, pvSt_ap, pvX_c, pvX_ms, pvX_mn, pvE_nil, pvEn_i, pvEn_r, pvEn_l, pvEn_0, pvEn_s, pvRt, pvRv, pvTh, pvKc, pvGo, pvTgt, Int.toNat_natCast, false_and, and_false, true_and, and_true, if_true, if_false, reduceIte, reduceCtorEq, forall_const, false_or, or_false, true_or, or_true, ne_eq, not_true_eq_false, not_false_eq_true, implies_true, false_implies, Nat.reduceAdd, Nat.reduceSub, Nat.reduceMul, Nat.reduceEqDiff, Nat.reduceLT, Nat.reduceLeDiff, Int.reduceAdd, Int.reduceSub, Int.reduceMul, Int.reduceNeg, Int.reduceToNat, Int.reduceLE, Int.reduceLT, Int.reduceEq, Int.reduceNe, and_self]
          by_cases hm : sbF A s a k ∈ brK A s a k
          · have e1 : insF (brK A s a k) (sbF A s a k) = brK A s a k := if_pos hm
            have e2 : brK A s a (k + 1) = brK A s a k := e1
            have q9 := ih (m - 1) (by omega) (k + 1) x (by omega) (by rw [e2]; exact hx) (by rw [e2]; exact hle)
            rw [e2] at q9
            simp only [decide_eq_true hm, if_true, reduceIte]
            (repeat' first | with_reducible apply And.intro | with_reducible intro _)
            all_goals first
              | omega
              | contradiction
              | exact q9
          · have e1 : insF (brK A s a k) (sbF A s a k) = brK A s a k ++ [sbF A s a k] := if_neg hm
            have e2 : brK A s a (k + 1) = brK A s a k ++ [sbF A s a k] := e1
            simp only [decide_eq_false hm, Bool.false_eq_true, if_false, reduceIte]
            by_cases hbk : (brK A s a k).length = b
            · have e3 : ndF (brF A s a) b = sbF A s a k := by
                obtain ⟨M, eM⟩ := brK_p A s a (k + 1) (nVal - (k + 1))
                rw [show k + 1 + (nVal - (k + 1)) = nVal by omega] at eM
                unfold brF
                rw [eM, ndF_a (by rw [e2, List.length_append, List.length_singleton]; omega), e2, ← hbk]
                exact ndF_b
              rw [e3] at h2
              (repeat' first | with_reducible apply And.intro | with_reducible intro _)
              all_goals first
                | omega
                | contradiction
                | exact h2
            · have q9 := ih (m - 1) (by omega) (k + 1) _ (by omega) hse (by rw [e2, List.length_append, List.length_singleton]; omega)
              rw [e2, List.length_append, List.length_singleton] at q9
              (repeat' first | with_reducible apply And.intro | with_reducible intro _)
              all_goals first
                | omega
                | contradiction
                | exact q9
    refine hc 20 _ _ _ fun _ _ => ?_
    simp only [pvSt1]
    simp only [C_X3_setAt, hsh, es, pvE_aload_n0, pvLA_s, pvLd, pvE_iload_n1, pvLI_s, pvE_invokevirtual, pvC1_s, pvC2_s, pvAf_v, pvAf_x, pvPop, pvCs, pvCat, pvPush, aX3_branchSet_79, pvSh_0, pvSh_1, pvSh_2, pvSh_3, pvSh_4, pvSh_5, pvSh_6, pvSh_7, pvSh_8, pvSh_9, pvSh_10, pvSh_11, pvSh_12, pvSh_13, pvSh_14, pvSh_15, pvSh_16, pvSh_17, pvSh_18, pvSh_19, pvSh_20, pvSh_21, pvSh_22, pvSh_23, pvSh_24, pvSh_25, pvSh_26, pvSh_27, pvSh_28, pvSh_29, pvSh_30, pvSh_31, pvSh_32, pvSh_33, pvSh_34, pvSh_35, pvSh_36, pvSh_37, pvSh_38, pvE_istore, pvS1, List.length_cons, List.length_nil, pvClr_i, pvClr_r, pvClr_l, pvClr_d, pvClr_f, pvClr_n, pvE_iconst, pvE_iload, pvE_sipush, pvE_icmp_ge, pvE_iload_n2, aX3_branchSet_75, pvE_ishr, pvE_iand, pvE_if_ne, pvE_iload_n3, pvE_icmp_ne, pvE_ireturn, pvE_ishl, pvE_ior, pvE_iinc, pvIc_s, pvE_goto, bX3_branchSet_0, uX3_branchSet_0, bX3_branchSet_16, uX3_branchSet_16, bX3_branchSet_54, uX3_branchSet_54, bX3_branchSet_66, uX3_branchSet_66, bX3_branchSet_72, uX3_branchSet_72, pvMk_t, pvMk_f, pvMk_n, pvRtG, pvRecv_r, pvUp_nl, pvUp_same, pvUp_ap, pvSt_ap, pvX_c, pvX_ms, pvX_mn, pvE_nil, pvEn_i, pvEn_r, pvEn_l, pvEn_0, pvEn_s, pvRt, pvRv, pvTh, pvKc, pvGo, pvTgt, Int.toNat_natCast, false_and, and_false, true_and, and_true, if_true, if_false, reduceIte, reduceCtorEq, forall_const, false_or, or_false, true_or, or_true, ne_eq, not_true_eq_false, not_false_eq_true, implies_true, false_implies, Nat.reduceAdd, Nat.reduceSub, Nat.reduceMul, Nat.reduceEqDiff, Nat.reduceLT, Nat.reduceLeDiff, Int.reduceAdd, Int.reduceSub, Int.reduceMul, Int.reduceNeg, Int.reduceToNat, Int.reduceLE, Int.reduceLT, Int.reduceEq, Int.reduceNe, and_self]
    (repeat' first | with_reducible apply And.intro | with_reducible intro _)
    all_goals first
      | omega
      | exact loop nVal 0 0 (by omega) seP_0 (Nat.zero_le _)
  · exact h.elim
def C_X3_countValuations : pvC
  | [.inr (.inr (.inl id)), .inl i, .inl a, .inl t], z, Q => (id = 5 ∨ id = 9) ∧ ∃ A : Aut, (WfA A ∧ psP z id A ∧ (0 ≤ i ∧ i < (dsF A).length) ∧ 0 ≤ a ∧ a ≤ 2) ∧ Q (.inl (some (vI (cvK A (ndF (dsF A) i.toNat) a t nVal)))) z
  | _, _, _ => False
def bX3_countValuations : Nat → List (Instr × Nat)
  | 0 => [(.aload_n 0, 1), (.iload_n 1, 1), (.invokevirtual 79, 3), (.istore 4, 2), (.iconst 0, 1), (.istore 5, 2), (.iconst 0, 1), (.istore 6, 2)]
  | 13 => [(.iload 6, 2), (.sipush 216, 3), (.if_icmp .ge 25, 3), (.aload_n 0, 1), (.iload 4, 2), (.iload_n 2, 1), (.iload 6, 2), (.invokevirtual 75, 3), (.iload_n 3, 1), (.if_icmp .ne 6, 3), (.iinc 5 1, 3)]
  | 37 => [(.iinc 6 1, 3), (.goto (-27), 3)]
  | 43 => [(.iload 5, 2), (.ireturn, 1)]
  | _ => []
def uX3_countValuations : Nat → Option (List Bool)
  | 13 => some [true, false, true, true, true, true, true]
  | _ => none
def aX3_countValuations : pvCa
  | 75 => some (4, false, 3, 0, C_X3_successor)
  | 79 => some (2, false, 3, 0, C_X3_setAt)
  | _ => none
theorem bX3_countValuations_0 : bX3_countValuations 0 = [(.aload_n 0, 1), (.iload_n 1, 1), (.invokevirtual 79, 3), (.istore 4, 2), (.iconst 0, 1), (.istore 5, 2), (.iconst 0, 1), (.istore 6, 2)] := rfl
theorem uX3_countValuations_0 : uX3_countValuations 0 = none := rfl
theorem bX3_countValuations_13 : bX3_countValuations 13 = [(.iload 6, 2), (.sipush 216, 3), (.if_icmp .ge 25, 3), (.aload_n 0, 1), (.iload 4, 2), (.iload_n 2, 1), (.iload 6, 2), (.invokevirtual 75, 3), (.iload_n 3, 1), (.if_icmp .ne 6, 3), (.iinc 5 1, 3)] := rfl
theorem uX3_countValuations_13 : uX3_countValuations 13 = some [true, false, true, true, true, true, true] := rfl
theorem bX3_countValuations_37 : bX3_countValuations 37 = [(.iinc 6 1, 3), (.goto (-27), 3)] := rfl
theorem uX3_countValuations_37 : uX3_countValuations 37 = none := rfl
theorem bX3_countValuations_43 : bX3_countValuations 43 = [(.iload 5, 2), (.ireturn, 1)] := rfl
theorem uX3_countValuations_43 : uX3_countValuations 43 = none := rfl
theorem aX3_countValuations_75 : aX3_countValuations 75 = some (4, false, 3, 0, C_X3_successor) := rfl
theorem aX3_countValuations_79 : aX3_countValuations 79 = some (2, false, 3, 0, C_X3_setAt) := rfl
set_option maxRecDepth 100000 in
set_option maxHeartbeats 4000000 in
theorem okX3_countValuations : pvOkM fX3 aX3_countValuations kX3 eX3 (some .int) bX3_countValuations uX3_countValuations 7 C_X3_countValuations := by
  intro Q SW hc as z h hS hz
  unfold C_X3_countValuations at h
  split at h
  · rename_i id i a t
    obtain ⟨hid, A, ⟨hw, hp, hi, ha⟩, h2⟩ := h
    have hsh : pvSh id = Sum.inl 3 := pvSh_ps (by omega)
    have hok := dsF_ok hw
    have h16 := okL_len hok
    have es := psP_set hp (i := i.toNat) (by omega)
    have es15 := hok.2 _ (ndF_m (i := i.toNat) (by omega))
    obtain ⟨s, e⟩ : ∃ s, ndF (dsF A) i.toNat = s := ⟨_, rfl⟩
    obtain ⟨a, rfl⟩ : ∃ n : Nat, a = n := ⟨a.toNat, by omega⟩
    rw [e] at es es15 h2
    have hN := nVal_eq
    refine ⟨Nat.le_of_ble_eq_true rfl, ?_⟩
    have loop : ∀ (m k : Nat), k + m = nVal → SW 13 [some (vR id), none, some (vI (a : Int)), some (vI t), some (vI s), some (vI (cvK A s a t k)), some (vI (k : Int))] z := by
      intro m
      induction m using Nat.strongRecOn with
      | _ m ih =>
        intro k hk
        have hcr := cvK_r A s a t k
        refine hc 20 _ _ _ fun _ _ => ?_
        by_cases hx4 : nVal ≤ k
        · have ek : k = nVal := by omega
          rw [← ek] at h2
          simp only [pvSt1]
          simp only [C_X3_successor, pvE_aload_n0, pvLA_s, pvLd, pvE_iload_n1, pvLI_s, pvE_invokevirtual, pvC1_s, pvC2_s, pvAf_v, pvAf_x, pvPop, pvCs, pvCat, pvPush, aX3_countValuations_79, pvSh_0, pvSh_1, pvSh_2, pvSh_3, pvSh_4, pvSh_5, pvSh_6, pvSh_7, pvSh_8, pvSh_9, pvSh_10, pvSh_11, pvSh_12, pvSh_13, pvSh_14, pvSh_15, pvSh_16, pvSh_17, pvSh_18, pvSh_19, pvSh_20, pvSh_21, pvSh_22, pvSh_23, pvSh_24, pvSh_25, pvSh_26, pvSh_27, pvSh_28, pvSh_29, pvSh_30, pvSh_31, pvSh_32, pvSh_33, pvSh_34, pvSh_35, pvSh_36, pvSh_37, pvSh_38, pvE_istore, pvS1, List.length_cons, List.length_nil, pvClr_i, pvClr_r, pvClr_l, pvClr_d, pvClr_f, pvClr_n, pvE_iconst, pvE_iload, pvE_sipush, pvE_icmp_ge, pvE_iload_n2, aX3_countValuations_75, pvE_iload_n3, pvE_icmp_ne, pvE_iinc, pvIc_s, pvE_goto, pvE_ireturn, bX3_countValuations_0, uX3_countValuations_0, bX3_countValuations_13, uX3_countValuations_13, bX3_countValuations_37, uX3_countValuations_37, bX3_countValuations_43, uX3_countValuations_43, pvMk_t, pvMk_f, pvMk_n, pvRtG, pvRecv_r, pvUp_nl, pvUp_same, pvUp_ap, pvSt_ap, pvX_c, pvX_ms, pvX_mn, pvE_nil, pvEn_i, pvEn_r, pvEn_l, pvEn_0, pvEn_s, pvRt, pvRv, pvTh, pvKc, pvGo, pvTgt, Int.toNat_natCast, false_and, and_false, true_and, and_true, if_true, if_false, reduceIte, reduceCtorEq, forall_const, false_or, or_false, true_or, or_true, ne_eq, not_true_eq_false, not_false_eq_true, implies_true, false_implies, Nat.reduceAdd, Nat.reduceSub, Nat.reduceMul, Nat.reduceEqDiff, Nat.reduceLT, Nat.reduceLeDiff, Int.reduceAdd, Int.reduceSub, Int.reduceMul, Int.reduceNeg, Int.reduceToNat, Int.reduceLE, Int.reduceLT, Int.reduceEq, Int.reduceNe, and_self]
          (repeat' first | with_reducible apply And.intro | with_reducible intro _)
          all_goals first
            | omega
            | exact h2
        · have emv := (hp.2.2.2 a k (by omega) (by omega)).1
          have esu := su_eq hp.2.2.2 hw (set := s) (show a < 3 by omega) (show k < 216 by omega)
          have n1 : (216 * (a : Int) + (k : Int)).toNat = 216 * a + k := by omega
          have q9 := ih (m - 1) (by omega) (k + 1) (by omega)
          simp only [cvK] at q9
          simp only [pvSt1]
          simp only [C_X3_successor, hsh, n1, esu, pvE_aload_n0, pvLA_s, pvLd, pvE_iload_n1, pvLI_s, pvE_invokevirtual, pvC1_s, pvC2_s, pvAf_v, pvAf_x, pvPop, pvCs, pvCat, pvPush, aX3_countValuations_79, pvSh_0, pvSh_1, pvSh_2, pvSh_3, pvSh_4, pvSh_5, pvSh_6, pvSh_7, pvSh_8, pvSh_9, pvSh_10, pvSh_11, pvSh_12, pvSh_13, pvSh_14, pvSh_15, pvSh_16, pvSh_17, pvSh_18, pvSh_19, pvSh_20, pvSh_21, pvSh_22, pvSh_23, pvSh_24, pvSh_25, pvSh_26, pvSh_27, pvSh_28, pvSh_29, pvSh_30, pvSh_31, pvSh_32, pvSh_33, pvSh_34, pvSh_35, pvSh_36, pvSh_37, pvSh_38, pvE_istore, pvS1, List.length_cons, List.length_nil, pvClr_i, pvClr_r, pvClr_l, pvClr_d, pvClr_f, pvClr_n, pvE_iconst, pvE_iload, pvE_sipush, pvE_icmp_ge, pvE_iload_n2, aX3_countValuations_75, pvE_iload_n3, pvE_icmp_ne, pvE_iinc, pvIc_s, pvE_goto, pvE_ireturn, bX3_countValuations_0, uX3_countValuations_0, bX3_countValuations_13, uX3_countValuations_13, bX3_countValuations_37, uX3_countValuations_37, bX3_countValuations_43, uX3_countValuations_43, pvMk_t, pvMk_f, pvMk_n, pvRtG, pvRecv_r, pvUp_nl, pvUp_same, pvUp_ap, pvSt_ap, pvX_c, pvX_ms, pvX_mn, pvE_nil, pvEn_i, pvEn_r, pvEn_l, pvEn_0, pvEn_s, pvRt, pvRv, pvTh, pvKc, pvGo, pvTgt, Int.toNat_natCast, false_and, and_false, true_and, and_true, if_true, if_false, reduceIte, reduceCtorEq, forall_const, false_or, or_false, true_or, or_true, ne_eq, not_true_eq_false, not_false_eq_true, implies_true, false_implies, Nat.reduceAdd, Nat.reduceSub, Nat.reduceMul, Nat.reduceEqDiff, Nat.reduceLT, Nat.reduceLeDiff, Int.reduceAdd, Int.reduceSub, Int.reduceMul, Int.reduceNeg, Int.reduceToNat, Int.reduceLE, Int.reduceLT, Int.reduceEq, Int.reduceNe, and_self]
          by_cases et : sbF A s a k = t
          · rw [if_pos et] at q9
            (repeat' first | with_reducible apply And.intro | with_reducible intro _)
            all_goals first
              | omega
              | contradiction
              | exact q9
          · rw [if_neg et, Int.add_zero] at q9
            (repeat' first | with_reducible apply And.intro | with_reducible intro _)
            all_goals first
              | omega
              | contradiction
              | exact q9
    refine hc 20 _ _ _ fun _ _ => ?_
    simp only [pvSt1]
    simp only [C_X3_setAt, hsh, es, pvE_aload_n0, pvLA_s, pvLd, pvE_iload_n1, pvLI_s, pvE_invokevirtual, pvC1_s, pvC2_s, pvAf_v, pvAf_x, pvPop, pvCs, pvCat, pvPush, aX3_countValuations_79, pvSh_0, pvSh_1, pvSh_2, pvSh_3, pvSh_4, pvSh_5, pvSh_6, pvSh_7, pvSh_8, pvSh_9, pvSh_10, pvSh_11, pvSh_12, pvSh_13, pvSh_14, pvSh_15, pvSh_16, pvSh_17, pvSh_18, pvSh_19, pvSh_20, pvSh_21, pvSh_22, pvSh_23, pvSh_24, pvSh_25, pvSh_26, pvSh_27, pvSh_28, pvSh_29, pvSh_30, pvSh_31, pvSh_32, pvSh_33, pvSh_34, pvSh_35, pvSh_36, pvSh_37, pvSh_38, pvE_istore, pvS1, List.length_cons, List.length_nil, pvClr_i, pvClr_r, pvClr_l, pvClr_d, pvClr_f, pvClr_n, pvE_iconst, pvE_iload, pvE_sipush, pvE_icmp_ge, pvE_iload_n2, aX3_countValuations_75, pvE_iload_n3, pvE_icmp_ne, pvE_iinc, pvIc_s, pvE_goto, pvE_ireturn, bX3_countValuations_0, uX3_countValuations_0, bX3_countValuations_13, uX3_countValuations_13, bX3_countValuations_37, uX3_countValuations_37, bX3_countValuations_43, uX3_countValuations_43, pvMk_t, pvMk_f, pvMk_n, pvRtG, pvRecv_r, pvUp_nl, pvUp_same, pvUp_ap, pvSt_ap, pvX_c, pvX_ms, pvX_mn, pvE_nil, pvEn_i, pvEn_r, pvEn_l, pvEn_0, pvEn_s, pvRt, pvRv, pvTh, pvKc, pvGo, pvTgt, Int.toNat_natCast, false_and, and_false, true_and, and_true, if_true, if_false, reduceIte, reduceCtorEq, forall_const, false_or, or_false, true_or, or_true, ne_eq, not_true_eq_false, not_false_eq_true, implies_true, false_implies, Nat.reduceAdd, Nat.reduceSub, Nat.reduceMul, Nat.reduceEqDiff, Nat.reduceLT, Nat.reduceLeDiff, Int.reduceAdd, Int.reduceSub, Int.reduceMul, Int.reduceNeg, Int.reduceToNat, Int.reduceLE, Int.reduceLT, Int.reduceEq, Int.reduceNe, and_self]
    (repeat' first | with_reducible apply And.intro | with_reducible intro _)
    all_goals first
      | omega
      | exact loop nVal 0 (by omega)
  · exact h.elim

