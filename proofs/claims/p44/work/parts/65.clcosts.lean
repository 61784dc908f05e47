theorem ixF_no {L : List Int} {x : Int} (h : x ∉ L) : ixF L x = -1 := if_neg h
def C_X5_positionBehind : pvC
  | [.inr (.inr (.inl id)), .inr (.inr (.inl p)), .inr (.inr (.inl q)), .inl c, .inl a, .inl d], z, Q => id = 28 ∧ ∃ (A B : Aut) (Qs : List Int), (quF z Qs ∧ psS z p A ∧ psS z q B ∧ okQ c ∧ (0 ≤ a ∧ a ≤ 2) ∧ 0 ≤ d ∧ d ≤ 4) ∧ Q (.inl (some (vI (ixF Qs (stF1 A B c a d))))) z
  | _, _, _ => False
def bX5_positionBehind : Nat → List (Instr × Nat)
  | 0 => [(.iload_n 3, 1), (.sipush 256, 3), (.idiv, 1), (.iload 5, 2), (.invokestatic 89, 3), (.istore 6, 2), (.aload_n 1, 1), (.iload_n 3, 1), (.bipush 16, 2), (.idiv, 1), (.bipush 16, 2), (.irem, 1), (.iload 4, 2), (.iload 6, 2), (.invokevirtual 92, 3), (.istore 7, 2), (.iload 7, 2), (.ifCond .ne 5, 3), (.iconst (-1), 1), (.ireturn, 1)]
  | 36 => [(.aload_n 2, 1), (.iload_n 3, 1), (.bipush 16, 2), (.irem, 1), (.iload 4, 2), (.iload 6, 2), (.invokevirtual 92, 3), (.istore 8, 2), (.iload 6, 2), (.iload 4, 2), (.invokestatic 96, 3), (.iload 7, 2), (.bipush 16, 2), (.imul, 1), (.iload 8, 2), (.iadd, 1), (.invokestatic 74, 3), (.istore 9, 2), (.iload 9, 2), (.sipush 23552, 3), (.invokestatic 78, 3), (.ifCond .eq 15, 3), (.aload_n 0, 1), (.getfield 11, 3), (.iload 9, 2), (.iaload, 1), (.iconst 1, 1), (.isub, 1), (.goto 4, 3)]
  | 93 => [(.iconst (-1), 1)]
  | 94 => [(.ireturn, 1)]
  | _ => []
def uX5_positionBehind : Nat → Option (List Bool)
  | _ => none
def aX5_positionBehind : pvCa
  | 74 => some (2, true, 0, 0, C_X5_placeOf)
  | 78 => some (2, true, 0, 0, C_X9_isIndex)
  | 89 => some (2, true, 0, 0, C_X7_later)
  | 92 => some (4, false, 3, 0, C_X3_successor)
  | 96 => some (2, true, 0, 0, C_X7_withZero)
  | _ => none
theorem bX5_positionBehind_0 : bX5_positionBehind 0 = [(.iload_n 3, 1), (.sipush 256, 3), (.idiv, 1), (.iload 5, 2), (.invokestatic 89, 3), (.istore 6, 2), (.aload_n 1, 1), (.iload_n 3, 1), (.bipush 16, 2), (.idiv, 1), (.bipush 16, 2), (.irem, 1), (.iload 4, 2), (.iload 6, 2), (.invokevirtual 92, 3), (.istore 7, 2), (.iload 7, 2), (.ifCond .ne 5, 3), (.iconst (-1), 1), (.ireturn, 1)] := rfl
theorem uX5_positionBehind_0 : uX5_positionBehind 0 = none := rfl
theorem bX5_positionBehind_36 : bX5_positionBehind 36 = [(.aload_n 2, 1), (.iload_n 3, 1), (.bipush 16, 2), (.irem, 1), (.iload 4, 2), (.iload 6, 2), (.invokevirtual 92, 3), (.istore 8, 2), (.iload 6, 2), (.iload 4, 2), (.invokestatic 96, 3), (.iload 7, 2), (.bipush 16, 2), (.imul, 1), (.iload 8, 2), (.iadd, 1), (.invokestatic 74, 3), (.istore 9, 2), (.iload 9, 2), (.sipush 23552, 3), (.invokestatic 78, 3), (.ifCond .eq 15, 3), (.aload_n 0, 1), (.getfield 11, 3), (.iload 9, 2), (.iaload, 1), (.iconst 1, 1), (.isub, 1), (.goto 4, 3)] := rfl
theorem uX5_positionBehind_36 : uX5_positionBehind 36 = none := rfl
theorem bX5_positionBehind_93 : bX5_positionBehind 93 = [(.iconst (-1), 1)] := rfl
theorem uX5_positionBehind_93 : uX5_positionBehind 93 = none := rfl
theorem bX5_positionBehind_94 : bX5_positionBehind 94 = [(.ireturn, 1)] := rfl
theorem uX5_positionBehind_94 : uX5_positionBehind 94 = none := rfl
theorem aX5_positionBehind_74 : aX5_positionBehind 74 = some (2, true, 0, 0, C_X5_placeOf) := rfl
theorem aX5_positionBehind_78 : aX5_positionBehind 78 = some (2, true, 0, 0, C_X9_isIndex) := rfl
theorem aX5_positionBehind_89 : aX5_positionBehind 89 = some (2, true, 0, 0, C_X7_later) := rfl
theorem aX5_positionBehind_92 : aX5_positionBehind 92 = some (4, false, 3, 0, C_X3_successor) := rfl
theorem aX5_positionBehind_96 : aX5_positionBehind 96 = some (2, true, 0, 0, C_X7_withZero) := rfl
set_option maxRecDepth 100000 in
set_option maxHeartbeats 4000000 in
theorem okX5_positionBehind : pvOkM fX5 aX5_positionBehind kX5 eX5 (some .int) bX5_positionBehind uX5_positionBehind 10 C_X5_positionBehind := by
  intro Q SW hc as z h hS hz
  unfold C_X5_positionBehind at h
  split at h
  · rename_i id p q c a d
    obtain ⟨rfl, A, B, Qs, ⟨hq, hA, hB, hok, ha, hd⟩, h2⟩ := h
    have hc0 := hok.1
    have hcv := hok.2.1
    have hshp := pvSh_ps hA.1
    have hshq := pvSh_ps hB.1
    have hid1 := hA.1
    have hid2 := hB.1
    have hv := psF_r (v := c / 256) (d := d) (by omega)
    obtain ⟨s1, s2⟩ := psS_su hA (set := c / 16 % 16) (a := a) (v := psF (c / 256) d) (by omega) hv
    obtain ⟨s3, s4⟩ := psS_su hB (set := c % 16) (a := a) (v := psF (c / 256) d) (by omega) hv
    have r1 := sbF_r hA.2.2.2.2 (c / 16 % 16) a (psF (c / 256) d)
    have r2 := sbF_r hB.2.2.2.2 (c % 16) a (psF (c / 256) d)
    have hrs := rs_ok hv (a := a) (by omega)
    have hlen := qu_len hq.2.2.2.1 hq.2.2.2.2
    have est : stF1 A B c a d = if sbF A (c / 16 % 16) a (psF (c / 256) d) = 0 then -1 else 256 * rsF (psF (c / 256) d) a + 16 * sbF A (c / 16 % 16) a (psF (c / 256) d) + sbF B (c % 16) a (psF (c / 256) d) := rfl
    refine ⟨Nat.le_of_ble_eq_true rfl, hc 20 _ _ _ fun _ _ => ?_⟩
    clear hc hS hz
    simp only [pvSt1]
    simp only [C_X7_later, C_X3_successor, C_X7_withZero, C_X5_placeOf, C_X9_isIndex, s1, s3, hshp, hshq, pvE_iload_n3, pvLI_s, pvLd, pvE_sipush, pvE_idiv, pvE_iload, pvE_invokestatic (h0 := eX5_89), pvC1_s, pvC2_s, pvAf_v, pvAf_x, pvPop, pvCs, pvCat, pvPush, aX5_positionBehind_89, pvE_istore, pvS1, List.length_cons, List.length_nil, pvClr_i, pvClr_r, pvClr_l, pvClr_d, pvClr_f, pvClr_n, pvE_aload_n1, pvLA_s, pvE_bipush, pvE_irem, pvE_invokevirtual, aX5_positionBehind_92, pvSh_0, pvSh_1, pvSh_2, pvSh_3, pvSh_4, pvSh_5, pvSh_6, pvSh_7, pvSh_8, pvSh_9, pvSh_10, pvSh_11, pvSh_12, pvSh_13, pvSh_14, pvSh_15, pvSh_16, pvSh_17, pvSh_18, pvSh_19, pvSh_20, pvSh_21, pvSh_22, pvSh_23, pvSh_24, pvSh_25, pvSh_26, pvSh_27, pvSh_28, pvSh_29, pvSh_30, pvSh_31, pvSh_32, pvSh_33, pvSh_34, pvSh_35, pvSh_36, pvSh_37, pvSh_38, pvE_if_ne, pvE_iconst, pvE_ireturn, pvE_aload_n2, pvE_invokestatic (h0 := eX5_96), aX5_positionBehind_96, pvE_imul, pvE_iadd, pvE_invokestatic (h0 := eX5_74), aX5_positionBehind_74, pvE_invokestatic (h0 := eX5_78), aX5_positionBehind_78, pvE_if_eq, pvE_aload_n0, pvE_getfield, pvGf_0, pvGf_1, pvGf_2, fX5_11, pvRf_0_0, pvRf_0_1, pvRf_0_2, pvRf_0_3, pvRf_0_4, pvRf_0_5, pvRf_0_6, pvRf_0_7, pvRf_0_8, pvRf_0_9, pvRf_0_10, pvRf_1_0, pvRf_3_0, pvRf_5_0, pvRf_5_1, pvRf_5_2, pvRf_9_0, pvRf_9_1, pvRf_9_2, pvRf_13_0, pvRf_13_1, pvRf_13_2, pvRf_17_0, pvRf_17_2, pvRf_20_0, pvRf_20_1, pvRf_20_2, pvRf_24_0, pvRf_24_1, pvRf_24_2, pvRf_28_0, pvRf_28_1, pvRf_28_2, pvRf_28_3, pvRf_33_0, pvRf_33_1, pvRf_36_0, pvRf_36_1, pvE_iaload, pvAI, pvE_isub, pvE_goto, bX5_positionBehind_0, uX5_positionBehind_0, bX5_positionBehind_36, uX5_positionBehind_36, bX5_positionBehind_93, uX5_positionBehind_93, bX5_positionBehind_94, uX5_positionBehind_94, pvRtG, pvRecv_r, pvUp_nl, pvUp_same, pvUp_ap, pvSt_ap, pvX_c, pvX_ms, pvX_mn, pvE_nil, pvEn_i, pvEn_r, pvEn_l, pvEn_0, pvEn_s, pvRt, pvRv, pvTh, pvKc, pvGo, pvTgt, Int.toNat_natCast, false_and, and_false, true_and, and_true, if_true, if_false, reduceIte, reduceCtorEq, forall_const, false_or, or_false, true_or, or_true, ne_eq, not_true_eq_false, not_false_eq_true, implies_true, false_implies, Nat.reduceAdd, Nat.reduceSub, Nat.reduceMul, Nat.reduceEqDiff, Nat.reduceLT, Nat.reduceLeDiff, Int.reduceAdd, Int.reduceSub, Int.reduceMul, Int.reduceNeg, Int.reduceToNat, Int.reduceLE, Int.reduceLT, Int.reduceEq, Int.reduceNe, and_self]
    by_cases e0 : sbF A (c / 16 % 16) a (psF (c / 256) d) = 0
    · rw [if_pos e0] at est
      rw [est, ixF_no (fun hm => by have := (hq.2.2.2.2 _ hm).1; omega)] at h2
      (repeat' first | with_reducible apply And.intro | with_reducible intro _)
      all_goals first
        | omega
        | contradiction
        | exact h2
    · rw [if_neg e0] at est
      rcases st_r hA.2.2.2.2 hB.2.2.2.2 hok ha hd with hst | hst
      · have := hrs.1
        omega
      · have hrs1 := hrs.1
        have hpn := (pn_in hrs).1
        have hdv : stF1 A B c a d / 256 = rsF (psF (c / 256) d) a := by omega
        have hdm : stF1 A B c a d % 256 = 16 * sbF A (c / 16 % 16) a (psF (c / 256) d) + sbF B (c % 16) a (psF (c / 256) d) := by omega
        have hpl : 256 * pnF (rsF (psF (c / 256) d) a) + (sbF A (c / 16 % 16) a (psF (c / 256) d) * 16 + sbF B (c % 16) a (psF (c / 256) d)) = plF (stF1 A B c a d) := by unfold plF; rw [hdv, hdm]; omega
        have h3 := hq.2.2.1 _ hst
        have hpr := pl_r hst
        rw [hpl, h3]
        by_cases hm : stF1 A B c a d ∈ Qs
        · have hix := (ixN_lt hm).1
          rw [show ixF Qs (stF1 A B c a d) = ((ixN Qs (stF1 A B c a d) : Nat) : Int) from if_pos hm] at h2
          rw [if_pos hm]
          (repeat' first | with_reducible apply And.intro | with_reducible intro _)
          all_goals first
            | omega
            | contradiction
            | assumption
            | (rw [show ((ixN Qs (stF1 A B c a d) : Nat) : Int) + 1 - 1 = ((ixN Qs (stF1 A B c a d) : Nat) : Int) by omega]; exact h2)
        · rw [ixF_no hm] at h2
          rw [if_neg hm]
          (repeat' first | with_reducible apply And.intro | with_reducible intro _)
          all_goals first
            | omega
            | contradiction
            | assumption
            | exact h2
  · exact h.elim
/-- what the costs at the next level must hold, for one configuration's least cost -/
def lcP (A B : Aut) (z : pvM) (Qs : List Int) (lev : Nat) (co : Int → Int) (nl : Int) (c : Int) : Prop :=
  0 ≤ nl ∧ (∀ x ∈ Qs, (nl ≤ ixF Qs x ↔ ¬ ∃ n, n < lev ∧ rcK A B n x)) ∧ (∃ l, lev = l + 1 ∧ rcK A B l c) ∧ (∀ x, rcK A B lev x → x ∈ Qs) ∧ (∀ x ∈ Qs, lqF A B lev x → z.1 31 (ixN Qs x) = co x) ∧ ∀ x, 0 ≤ co x ∧ co x ≤ 1000
theorem lc_iff {A B : Aut} {z : pvM} {Qs : List Int} {lev : Nat} {co : Int → Int} {nl c : Int} (h : lcP A B z Qs lev co nl c) (hq : ∀ x ∈ Qs, okQ x) {a d : Int} (ha : 0 ≤ a ∧ a ≤ 2) (hd : 0 ≤ d ∧ d ≤ 4) :
    nl ≤ ixF Qs (stF1 A B c a d) ↔ lqF A B lev (stF1 A B c a d) := by
  obtain ⟨h1, h2, ⟨l, e, h3⟩, h4, h5, h6⟩ := h
  subst e
  constructor
  · intro h9
    have hm : stF1 A B c a d ∈ Qs := by
      by_cases hm : stF1 A B c a d ∈ Qs
      · exact hm
      · rw [ixF_no hm] at h9; omega
    have hno := (h2 _ hm).mp h9
    exact ⟨⟨c, a, d, h3, ha, hd, rfl, (hq _ hm).1⟩, fun m hm' hr => hno ⟨m, hm', hr⟩⟩
  · intro h9
    exact (h2 _ (h4 _ h9.1)).mpr (fun ⟨n, n1, n2⟩ => h9.2 n n1 n2)
def C_X5_leastCost : pvC
  | [.inr (.inr (.inl id)), .inr (.inr (.inl p)), .inr (.inr (.inl q)), .inl i, .inl nl], z, Q => id = 28 ∧ ∃ (A B : Aut) (Qs : List Int) (lev : Nat) (co : Int → Int), (quF z Qs ∧ psS z p A ∧ psS z q B ∧ (0 ≤ i ∧ i < Qs.length) ∧ lcP A B z Qs lev co nl (ndF Qs i.toNat)) ∧ Q (.inl (some (vI (mnK A B lev co (ndF Qs i.toNat) nFif)))) z
  | _, _, _ => False
def bX5_leastCost : Nat → List (Instr × Nat)
  | 0 => [(.sipush 1000, 3), (.istore 5, 2), (.iconst 0, 1), (.istore 6, 2)]
  | 8 => [(.iload 6, 2), (.iconst 3, 1), (.if_icmp .ge 64, 3), (.iconst 0, 1), (.istore 7, 2)]
  | 17 => [(.iload 7, 2), (.iconst 4, 1), (.if_icmp .gt 49, 3), (.aload_n 0, 1), (.aload_n 1, 1), (.aload_n 2, 1), (.aload_n 0, 1), (.iload_n 3, 1), (.invokevirtual 67, 3), (.iload 6, 2), (.iload 7, 2), (.invokevirtual 106, 3), (.istore 8, 2), (.iload 8, 2), (.iload 4, 2), (.if_icmp .lt 19, 3), (.iload 5, 2), (.iload 7, 2), (.aload_n 0, 1), (.iload 8, 2), (.invokevirtual 110, 3), (.iadd, 1), (.invokestatic 113, 3), (.istore 5, 2)]
  | 63 => [(.iinc 7 1, 3), (.goto (-49), 3)]
  | 69 => [(.iinc 6 1, 3), (.goto (-64), 3)]
  | 75 => [(.iload 5, 2), (.ireturn, 1)]
  | _ => []
def uX5_leastCost : Nat → Option (List Bool)
  | 8 => some [true, true, true, true, true, true, true, false, false]
  | 17 => some [true, true, true, true, true, true, true, true, false]
  | _ => none
def aX5_leastCost : pvCa
  | 67 => some (2, false, 5, 0, C_X5_configurationAt)
  | 106 => some (6, false, 5, 0, C_X5_positionBehind)
  | 110 => some (2, false, 5, 0, C_X5_costAt)
  | 113 => some (2, true, 0, 0, C_J9_min_7cf53)
  | _ => none
theorem bX5_leastCost_0 : bX5_leastCost 0 = [(.sipush 1000, 3), (.istore 5, 2), (.iconst 0, 1), (.istore 6, 2)] := rfl
theorem uX5_leastCost_0 : uX5_leastCost 0 = none := rfl
theorem bX5_leastCost_8 : bX5_leastCost 8 = [(.iload 6, 2), (.iconst 3, 1), (.if_icmp .ge 64, 3), (.iconst 0, 1), (.istore 7, 2)] := rfl
theorem uX5_leastCost_8 : uX5_leastCost 8 = some [true, true, true, true, true, true, true, false, false] := rfl
theorem bX5_leastCost_17 : bX5_leastCost 17 = [(.iload 7, 2), (.iconst 4, 1), (.if_icmp .gt 49, 3), (.aload_n 0, 1), (.aload_n 1, 1), (.aload_n 2, 1), (.aload_n 0, 1), (.iload_n 3, 1), (.invokevirtual 67, 3), (.iload 6, 2), (.iload 7, 2), (.invokevirtual 106, 3), (.istore 8, 2), (.iload 8, 2), (.iload 4, 2), (.if_icmp .lt 19, 3), (.iload 5, 2), (.iload 7, 2), (.aload_n 0, 1), (.iload 8, 2), (.invokevirtual 110, 3), (.iadd, 1), (.invokestatic 113, 3), (.istore 5, 2)] := rfl
theorem uX5_leastCost_17 : uX5_leastCost 17 = some [true, true, true, true, true, true, true, true, false] := rfl
theorem bX5_leastCost_63 : bX5_leastCost 63 = [(.iinc 7 1, 3), (.goto (-49), 3)] := rfl
theorem uX5_leastCost_63 : uX5_leastCost 63 = none := rfl
theorem bX5_leastCost_69 : bX5_leastCost 69 = [(.iinc 6 1, 3), (.goto (-64), 3)] := rfl
theorem uX5_leastCost_69 : uX5_leastCost 69 = none := rfl
theorem bX5_leastCost_75 : bX5_leastCost 75 = [(.iload 5, 2), (.ireturn, 1)] := rfl
theorem uX5_leastCost_75 : uX5_leastCost 75 = none := rfl
theorem aX5_leastCost_67 : aX5_leastCost 67 = some (2, false, 5, 0, C_X5_configurationAt) := rfl
theorem aX5_leastCost_106 : aX5_leastCost 106 = some (6, false, 5, 0, C_X5_positionBehind) := rfl
theorem aX5_leastCost_110 : aX5_leastCost 110 = some (2, false, 5, 0, C_X5_costAt) := rfl
theorem aX5_leastCost_113 : aX5_leastCost 113 = some (2, true, 0, 0, C_J9_min_7cf53) := rfl
set_option maxRecDepth 100000 in
set_option maxHeartbeats 4000000 in
theorem okX5_leastCost : pvOkM fX5 aX5_leastCost kX5 eX5 (some .int) bX5_leastCost uX5_leastCost 9 C_X5_leastCost := by
  intro Q SW hc as z h hS hz
  unfold C_X5_leastCost at h
  split at h
  · rename_i id p q i nl
    obtain ⟨rfl, A, B, Qs, lev, co, ⟨hq, hA, hB, hi, hl⟩, h2⟩ := h
    obtain ⟨i, rfl⟩ : ∃ n : Nat, i = n := ⟨i.toNat, by omega⟩
    rw [Int.toNat_natCast] at hl h2
    have hlen := qu_len hq.2.2.2.1 hq.2.2.2.2
    have ei := hq.2.1 i (by omega)
    have hok := hq.2.2.2.2 _ (ndF_m (L := Qs) (i := i) (by omega))
    obtain ⟨c, ec⟩ : ∃ c, ndF Qs i = c := ⟨_, rfl⟩
    rw [ec] at hl h2 ei hok
    have hid1 := hA.1
    have hid2 := hB.1
    have hnl := hl.1
    have hF := nFif_eq
    have hcr := hl.2.2.2.2.2
    have hmr := fun k => mnK_r (A := A) (B := B) (lev := lev) (co := co) (c := c) (fun x => (hcr x).1) k
    refine ⟨Nat.le_of_ble_eq_true rfl, ?_⟩
    have outer : ∀ (ma a : Nat), a + ma = 3 → SW 8 [some (vR 28), some (vR p), some (vR q), some (vI (i : Int)), some (vI nl), some (vI (mnK A B lev co c (5 * a))), some (vI (a : Int)), none, none] z := by
      intro ma
      induction ma using Nat.strongRecOn with
      | _ ma iha =>
        intro a ha
        have inner : a < 3 → ∀ (md d : Nat), d + md = 5 → SW 17 [some (vR 28), some (vR p), some (vR q), some (vI (i : Int)), some (vI nl), some (vI (mnK A B lev co c (5 * a + d))), some (vI (a : Int)), some (vI (d : Int)), none] z := by
          intro ha3 md
          induction md using Nat.strongRecOn with
          | _ md ihd =>
            intro d hd
            refine hc 20 _ _ _ fun _ _ => ?_
            by_cases hd5 : 5 ≤ d
            · have q9 := iha (ma - 1) (by omega) (a + 1) (by omega)
              rw [show 5 * (a + 1) = 5 * a + d by omega] at q9
              simp only [pvSt1]
              simp only [pvE_sipush, pvE_istore, pvS1, List.length_cons, List.length_nil, pvClr_i, pvClr_r, pvClr_l, pvClr_d, pvClr_f, pvClr_n, pvE_iconst, pvE_iload, pvLI_s, pvLd, pvE_icmp_ge, pvE_icmp_gt, pvE_aload_n0, pvLA_s, pvE_aload_n1, pvE_aload_n2, pvE_iload_n3, pvE_invokevirtual, pvC1_s, pvC2_s, pvAf_v, pvAf_x, pvPop, pvCs, pvCat, pvPush, aX5_leastCost_67, pvSh_0, pvSh_1, pvSh_2, pvSh_3, pvSh_4, pvSh_5, pvSh_6, pvSh_7, pvSh_8, pvSh_9, pvSh_10, pvSh_11, pvSh_12, pvSh_13, pvSh_14, pvSh_15, pvSh_16, pvSh_17, pvSh_18, pvSh_19, pvSh_20, pvSh_21, pvSh_22, pvSh_23, pvSh_24, pvSh_25, pvSh_26, pvSh_27, pvSh_28, pvSh_29, pvSh_30, pvSh_31, pvSh_32, pvSh_33, pvSh_34, pvSh_35, pvSh_36, pvSh_37, pvSh_38, aX5_leastCost_106, pvE_icmp_lt, aX5_leastCost_110, pvE_iadd, pvE_invokestatic (h0 := eX5_113), aX5_leastCost_113, pvE_iinc, pvIc_s, pvE_goto, pvE_ireturn, bX5_leastCost_0, uX5_leastCost_0, bX5_leastCost_8, uX5_leastCost_8, bX5_leastCost_17, uX5_leastCost_17, bX5_leastCost_63, uX5_leastCost_63, bX5_leastCost_69, uX5_leastCost_69, bX5_leastCost_75, uX5_leastCost_75, pvMk_t, pvMk_f, pvMk_n, pvRtG, pvRecv_r, pvUp_nl, pvUp_same, pvUp_ap, pvSt_ap, pvX_c, pvX_ms, pvX_mn, pvE_nil, pvEn_i, pvEn_r, pvEn_l, pvEn_0, pvEn_s, pvRt, pvRv, pvTh, pvKc, pvGo, pvTgt, Int.toNat_natCast, false_and, and_false, true_and, and_true, if_true, if_false, reduceIte, reduceCtorEq, forall_const, false_or, or_false, true_or, or_true, ne_eq, not_true_eq_false, not_false_eq_true, implies_true, false_implies, Nat.reduceAdd, Nat.reduceSub, Nat.reduceMul, Nat.reduceEqDiff, Nat.reduceLT, Nat.reduceLeDiff, Int.reduceAdd, Int.reduceSub, Int.reduceMul, Int.reduceNeg, Int.reduceToNat, Int.reduceLE, Int.reduceLT, Int.reduceEq, Int.reduceNe, and_self]
              (repeat' first | with_reducible apply And.intro | with_reducible intro _)
              all_goals first
                | omega
                | exact q9
            · have q9 := ihd (md - 1) (by omega) (d + 1) (by omega)
              rw [← Nat.add_assoc] at q9
              simp only [mnK] at q9
              rw [show (5 * a + d) / 5 = a by omega, show (5 * a + d) % 5 = d by omega] at q9
              have hli := lc_iff hl hq.2.2.2.2 (a := (a : Int)) (d := (d : Int)) (by omega) (by omega)
              have hm5 := hmr (5 * a + d)
              simp only [pvSt1]
              simp only [C_X5_configurationAt, C_X5_positionBehind, C_X5_costAt, C_J9_min_7cf53, ei, pvE_sipush, pvE_istore, pvS1, List.length_cons, List.length_nil, pvClr_i, pvClr_r, pvClr_l, pvClr_d, pvClr_f, pvClr_n, pvE_iconst, pvE_iload, pvLI_s, pvLd, pvE_icmp_ge, pvE_icmp_gt, pvE_aload_n0, pvLA_s, pvE_aload_n1, pvE_aload_n2, pvE_iload_n3, pvE_invokevirtual, pvC1_s, pvC2_s, pvAf_v, pvAf_x, pvPop, pvCs, pvCat, pvPush, aX5_leastCost_67, pvSh_0, pvSh_1, pvSh_2, pvSh_3, pvSh_4, pvSh_5, pvSh_6, pvSh_7, pvSh_8, pvSh_9, pvSh_10, pvSh_11, pvSh_12, pvSh_13, pvSh_14, pvSh_15, pvSh_16, pvSh_17, pvSh_18, pvSh_19, pvSh_20, pvSh_21, pvSh_22, pvSh_23, pvSh_24, pvSh_25, pvSh_26, pvSh_27, pvSh_28, pvSh_29, pvSh_30, pvSh_31, pvSh_32, pvSh_33, pvSh_34, pvSh_35, pvSh_36, pvSh_37, pvSh_38, aX5_leastCost_106, pvE_icmp_lt, aX5_leastCost_110, pvE_iadd, pvE_invokestatic (h0 := eX5_113), aX5_leastCost_113, pvE_iinc, pvIc_s, pvE_goto, pvE_ireturn, bX5_leastCost_0, uX5_leastCost_0, bX5_leastCost_8, uX5_leastCost_8, bX5_leastCost_17, uX5_leastCost_17, bX5_leastCost_63, uX5_leastCost_63, bX5_leastCost_69, uX5_leastCost_69, bX5_leastCost_75, uX5_leastCost_75, pvMk_t, pvMk_f, pvMk_n, pvRtG, pvRecv_r, pvUp_nl, pvUp_same, pvUp_ap, pvSt_ap, pvX_c, pvX_ms, pvX_mn, pvE_nil, pvEn_i, pvEn_r, pvEn_l, pvEn_0, pvEn_s, pvRt, pvRv, pvTh, pvKc, pvGo, pvTgt, Int.toNat_natCast, false_and, and_false, true_and, and_true, if_true, if_false, reduceIte, reduceCtorEq, forall_const, false_or, or_false, true_or, or_true, ne_eq, not_true_eq_false, not_false_eq_true, implies_true, false_implies, Nat.reduceAdd, Nat.reduceSub, Nat.reduceMul, Nat.reduceEqDiff, Nat.reduceLT, Nat.reduceLeDiff, Int.reduceAdd, Int.reduceSub, Int.reduceMul, Int.reduceNeg, Int.reduceToNat, Int.reduceLE, Int.reduceLT, Int.reduceEq, Int.reduceNe, and_self]
              by_cases hlv : lqF A B lev (stF1 A B c (a : Int) (d : Int))
              · have h9 := hli.mpr hlv
                have hm := hl.2.2.2.1 _ hlv.1
                have hix := ixF_r hm
                have e31 := hl.2.2.2.2.1 _ hm hlv
                have eix : (ixF Qs (stF1 A B c (a : Int) (d : Int))).toNat = ixN Qs (stF1 A B c (a : Int) (d : Int)) := by unfold ixF; rw [if_pos hm, Int.toNat_natCast]
                have hcx := hcr (stF1 A B c (a : Int) (d : Int))
                have emin : (if lvB A B lev (stF1 A B c (a : Int) (d : Int)) = true ∧ co (stF1 A B c (a : Int) (d : Int)) + (d : Int) < mnK A B lev co c (5 * a + d) then co (stF1 A B c (a : Int) (d : Int)) + (d : Int) else mnK A B lev co c (5 * a + d)) = (if mnK A B lev co c (5 * a + d) ≤ (d : Int) + co (stF1 A B c (a : Int) (d : Int)) then mnK A B lev co c (5 * a + d) else (d : Int) + co (stF1 A B c (a : Int) (d : Int))) := by
                  by_cases e : co (stF1 A B c (a : Int) (d : Int)) + (d : Int) < mnK A B lev co c (5 * a + d)
                  · rw [if_pos ⟨lvB_t.mpr hlv, e⟩, if_neg (by omega)]; omega
                  · rw [if_neg (fun q => e q.2), if_pos (by omega)]
                rw [emin] at q9
                (repeat' first | with_reducible apply And.intro | with_reducible intro _)
                all_goals first
                  | omega
                  | contradiction
                  | skip
                all_goals
                  refine ⟨A, B, Qs, ⟨hq, hA, hB, hok, by omega, by omega⟩, ?_⟩
                  simp only [eix, e31]
                  (repeat' first | with_reducible apply And.intro | with_reducible intro _)
                  all_goals first
                    | omega
                    | contradiction
                    | (exfalso; omega)
                    | (split <;> omega)
                    | exact q9
              · have h9 := mt hli.mp hlv
                rw [if_neg (fun q => hlv (lvB_t.mp q.1))] at q9
                (repeat' first | with_reducible apply And.intro | with_reducible intro _)
                all_goals first
                  | omega
                  | contradiction
                  | skip
                all_goals
                  refine ⟨A, B, Qs, ⟨hq, hA, hB, hok, by omega, by omega⟩, ?_⟩
                  (repeat' first | with_reducible apply And.intro | with_reducible intro _)
                  all_goals first
                    | omega
                    | contradiction
                    | (exfalso; omega)
                    | exact q9
        refine hc 20 _ _ _ fun _ _ => ?_
        simp only [pvSt1]
        simp only [pvE_sipush, pvE_istore, pvS1, List.length_cons, List.length_nil, pvClr_i, pvClr_r, pvClr_l, pvClr_d, pvClr_f, pvClr_n, pvE_iconst, pvE_iload, pvLI_s, pvLd, pvE_icmp_ge, pvE_icmp_gt, pvE_aload_n0, pvLA_s, pvE_aload_n1, pvE_aload_n2, pvE_iload_n3, pvE_invokevirtual, pvC1_s, pvC2_s, pvAf_v, pvAf_x, pvPop, pvCs, pvCat, pvPush, aX5_leastCost_67, pvSh_0, pvSh_1, pvSh_2, pvSh_3, pvSh_4, pvSh_5, pvSh_6, pvSh_7, pvSh_8, pvSh_9, pvSh_10, pvSh_11, pvSh_12, pvSh_13, pvSh_14, pvSh_15, pvSh_16, pvSh_17, pvSh_18, pvSh_19, pvSh_20, pvSh_21, pvSh_22, pvSh_23, pvSh_24, pvSh_25, pvSh_26, pvSh_27, pvSh_28, pvSh_29, pvSh_30, pvSh_31, pvSh_32, pvSh_33, pvSh_34, pvSh_35, pvSh_36, pvSh_37, pvSh_38, aX5_leastCost_106, pvE_icmp_lt, aX5_leastCost_110, pvE_iadd, pvE_invokestatic (h0 := eX5_113), aX5_leastCost_113, pvE_iinc, pvIc_s, pvE_goto, pvE_ireturn, bX5_leastCost_0, uX5_leastCost_0, bX5_leastCost_8, uX5_leastCost_8, bX5_leastCost_17, uX5_leastCost_17, bX5_leastCost_63, uX5_leastCost_63, bX5_leastCost_69, uX5_leastCost_69, bX5_leastCost_75, uX5_leastCost_75, pvMk_t, pvMk_f, pvMk_n, pvRtG, pvRecv_r, pvUp_nl, pvUp_same, pvUp_ap, pvSt_ap, pvX_c, pvX_ms, pvX_mn, pvE_nil, pvEn_i, pvEn_r, pvEn_l, pvEn_0, pvEn_s, pvRt, pvRv, pvTh, pvKc, pvGo, pvTgt, Int.toNat_natCast, false_and, and_false, true_and, and_true, if_true, if_false, reduceIte, reduceCtorEq, forall_const, false_or, or_false, true_or, or_true, ne_eq, not_true_eq_false, not_false_eq_true, implies_true, false_implies, Nat.reduceAdd, Nat.reduceSub, Nat.reduceMul, Nat.reduceEqDiff, Nat.reduceLT, Nat.reduceLeDiff, Int.reduceAdd, Int.reduceSub, Int.reduceMul, Int.reduceNeg, Int.reduceToNat, Int.reduceLE, Int.reduceLT, Int.reduceEq, Int.reduceNe, and_self]
        by_cases ha3 : 3 ≤ a
        · have e15 : 5 * a = nFif := by omega
          rw [← e15] at h2
          (repeat' first | with_reducible apply And.intro | with_reducible intro _)
          all_goals first
            | omega
            | exact h2
        · have q9 := inner (by omega) 5 0 (by omega)
          (repeat' first | with_reducible apply And.intro | with_reducible intro _)
          all_goals first
            | omega
            | exact q9
    refine hc 20 _ _ _ fun _ _ => ?_
    simp only [pvSt1]
    simp only [pvE_sipush, pvE_istore, pvS1, List.length_cons, List.length_nil, pvClr_i, pvClr_r, pvClr_l, pvClr_d, pvClr_f, pvClr_n, pvE_iconst, pvE_iload, pvLI_s, pvLd, pvE_icmp_ge, pvE_icmp_gt, pvE_aload_n0, pvLA_s, pvE_aload_n1, pvE_aload_n2, pvE_iload_n3, pvE_invokevirtual, pvC1_s, pvC2_s, pvAf_v, pvAf_x, pvPop, pvCs, pvCat, pvPush, aX5_leastCost_67, pvSh_0, pvSh_1, pvSh_2, pvSh_3, pvSh_4, pvSh_5, pvSh_6, pvSh_7, pvSh_8, pvSh_9, pvSh_10, pvSh_11, pvSh_12, pvSh_13, pvSh_14, pvSh_15, pvSh_16, pvSh_17, pvSh_18, pvSh_19, pvSh_20, pvSh_21, pvSh_22, pvSh_23, pvSh_24, pvSh_25, pvSh_26, pvSh_27, pvSh_28, pvSh_29, pvSh_30, pvSh_31, pvSh_32, pvSh_33, pvSh_34, pvSh_35, pvSh_36, pvSh_37, pvSh_38, aX5_leastCost_106, pvE_icmp_lt, aX5_leastCost_110, pvE_iadd, pvE_invokestatic (h0 := eX5_113), aX5_leastCost_113, pvE_iinc, pvIc_s, pvE_goto, pvE_ireturn, bX5_leastCost_0, uX5_leastCost_0, bX5_leastCost_8, uX5_leastCost_8, bX5_leastCost_17, uX5_leastCost_17, bX5_leastCost_63, uX5_leastCost_63, bX5_leastCost_69, uX5_leastCost_69, bX5_leastCost_75, uX5_leastCost_75, pvMk_t, pvMk_f, pvMk_n, pvRtG, pvRecv_r, pvUp_nl, pvUp_same, pvUp_ap, pvSt_ap, pvX_c, pvX_ms, pvX_mn, pvE_nil, pvEn_i, pvEn_r, pvEn_l, pvEn_0, pvEn_s, pvRt, pvRv, pvTh, pvKc, pvGo, pvTgt, Int.toNat_natCast, false_and, and_false, true_and, and_true, if_true, if_false, reduceIte, reduceCtorEq, forall_const, false_or, or_false, true_or, or_true, ne_eq, not_true_eq_false, not_false_eq_true, implies_true, false_implies, Nat.reduceAdd, Nat.reduceSub, Nat.reduceMul, Nat.reduceEqDiff, Nat.reduceLT, Nat.reduceLeDiff, Int.reduceAdd, Int.reduceSub, Int.reduceMul, Int.reduceNeg, Int.reduceToNat, Int.reduceLE, Int.reduceLT, Int.reduceEq, Int.reduceNe, and_self]
    (repeat' first | with_reducible apply And.intro | with_reducible intro _)
    all_goals first
      | omega
      | exact outer 3 0 rfl
  · exact h.elim

