/-! the reference: branches -/
theorem brK_ds {A : Aut} (hw : WfA A) {s : Int} (hs : s ∈ dsF A) {a : Int} (ha : 0 ≤ a ∧ a ≤ 2) {k : Nat} (hk : k ≤ 216) {x : Int} (hx : x ∈ brK A s a k) : x ∈ dsF A := by
  obtain ⟨v, h1, h2⟩ := brK_m.mp hx
  rw [← h2]
  exact dsF_mc hw hs ha (by omega)
theorem ixF_inj {L : List Int} {x y : Int} (hx : x ∈ L) (hy : y ∈ L) (e : ixF L x = ixF L y) : x = y := by
  have h1 := ixF_r hx
  have h2 := ixF_r hy
  rw [← h1.2.2, ← h2.2.2, e]
def C_X10_branchesOf : pvC
  | [.inr (.inr (.inl id)), .inl s, .inl n, .inl a], z, Q => id = 39 ∧ ∃ A : Aut, (autR (z.1 40) s = A ∧ (0 ≤ s ∧ s ≤ 1) ∧ WfA A ∧ rsL z (dsF A) ∧ ldP (z.1 48) s A ∧ (0 ≤ n ∧ n < (dsF A).length) ∧ 0 ≤ a ∧ a ≤ 2) ∧
      ∀ z' : pvM, frF [39, 50, 51] [] z z' → (∀ j, j ≠ 21 → z'.1 39 j = z.1 39 j) → z'.1 39 21 = (brF A (ndF (dsF A) n.toNat) a).length → (∀ b, b < (brF A (ndF (dsF A) n.toNat) a).length → z'.1 50 b = ixF (dsF A) (ndF (brF A (ndF (dsF A) n.toNat) a) b) ∧ z'.1 51 b = cvK A (ndF (dsF A) n.toNat) a (ndF (brF A (ndF (dsF A) n.toNat) a) b) nVal) → Q (.inl none) z'
  | _, _, _ => False
def bX10_branchesOf : Nat → List (Instr × Nat)
  | 0 => [(.aload_n 0, 1), (.iconst 0, 1), (.putfield 209, 3), (.iconst 0, 1), (.istore 4, 2)]
  | 8 => [(.iload 4, 2), (.sipush 216, 3), (.if_icmp .ge 106, 3), (.aload_n 0, 1), (.aload_n 0, 1), (.iload_n 1, 1), (.aload_n 0, 1), (.getfield 42, 3), (.iload_n 2, 1), (.iaload, 1), (.iload_n 3, 1), (.iload 4, 2), (.invokevirtual 203, 3), (.invokevirtual 200, 3), (.istore 5, 2), (.iconst 0, 1), (.istore 6, 2)]
  | 39 => [(.iload 6, 2), (.aload_n 0, 1), (.getfield 209, 3), (.if_icmp .ge 21, 3), (.aload_n 0, 1), (.getfield 45, 3), (.iload 6, 2), (.iaload, 1), (.iload 5, 2), (.if_icmp .eq 9, 3), (.iinc 6 1, 3), (.goto (-24), 3)]
  | 66 => [(.iload 6, 2), (.aload_n 0, 1), (.getfield 209, 3), (.if_icmp .ne 30, 3), (.aload_n 0, 1), (.getfield 45, 3), (.iload 6, 2), (.iload 5, 2), (.iastore, 1), (.aload_n 0, 1), (.getfield 48, 3), (.iload 6, 2), (.iconst 0, 1), (.iastore, 1), (.aload_n 0, 1), (.dup, 1), (.getfield 209, 3), (.iconst 1, 1), (.iadd, 1), (.putfield 209, 3)]
  | 102 => [(.aload_n 0, 1), (.getfield 48, 3), (.iload 6, 2), (.dup2, 1), (.iaload, 1), (.iconst 1, 1), (.iadd, 1), (.iastore, 1), (.iinc 4 1, 3), (.goto (-108), 3)]
  | 119 => [(.return_, 1)]
  | _ => []
def uX10_branchesOf : Nat → Option (List Bool)
  | 8 => some [true, true, true, true, true, false, false]
  | 39 => some [true, true, true, true, true, true, true]
  | _ => none
def aX10_branchesOf : pvCa
  | 200 => some (2, false, 9, 0, C_X10_numberOf)
  | 203 => some (5, false, 9, 0, C_X10_steps)
  | _ => none
theorem bX10_branchesOf_0 : bX10_branchesOf 0 = [(.aload_n 0, 1), (.iconst 0, 1), (.putfield 209, 3), (.iconst 0, 1), (.istore 4, 2)] := rfl
theorem uX10_branchesOf_0 : uX10_branchesOf 0 = none := rfl
theorem bX10_branchesOf_8 : bX10_branchesOf 8 = [(.iload 4, 2), (.sipush 216, 3), (.if_icmp .ge 106, 3), (.aload_n 0, 1), (.aload_n 0, 1), (.iload_n 1, 1), (.aload_n 0, 1), (.getfield 42, 3), (.iload_n 2, 1), (.iaload, 1), (.iload_n 3, 1), (.iload 4, 2), (.invokevirtual 203, 3), (.invokevirtual 200, 3), (.istore 5, 2), (.iconst 0, 1), (.istore 6, 2)] := rfl
theorem uX10_branchesOf_8 : uX10_branchesOf 8 = some [true, true, true, true, true, false, false] := rfl
theorem bX10_branchesOf_39 : bX10_branchesOf 39 = [(.iload 6, 2), (.aload_n 0, 1), (.getfield 209, 3), (.if_icmp .ge 21, 3), (.aload_n 0, 1), (.getfield 45, 3), (.iload 6, 2), (.iaload, 1), (.iload 5, 2), (.if_icmp .eq 9, 3), (.iinc 6 1, 3), (.goto (-24), 3)] := rfl
theorem uX10_branchesOf_39 : uX10_branchesOf 39 = some [true, true, true, true, true, true, true] := rfl
theorem bX10_branchesOf_66 : bX10_branchesOf 66 = [(.iload 6, 2), (.aload_n 0, 1), (.getfield 209, 3), (.if_icmp .ne 30, 3), (.aload_n 0, 1), (.getfield 45, 3), (.iload 6, 2), (.iload 5, 2), (.iastore, 1), (.aload_n 0, 1), (.getfield 48, 3), (.iload 6, 2), (.iconst 0, 1), (.iastore, 1), (.aload_n 0, 1), (.dup, 1), (.getfield 209, 3), (.iconst 1, 1), (.iadd, 1), (.putfield 209, 3)] := rfl
theorem uX10_branchesOf_66 : uX10_branchesOf 66 = none := rfl
theorem bX10_branchesOf_102 : bX10_branchesOf 102 = [(.aload_n 0, 1), (.getfield 48, 3), (.iload 6, 2), (.dup2, 1), (.iaload, 1), (.iconst 1, 1), (.iadd, 1), (.iastore, 1), (.iinc 4 1, 3), (.goto (-108), 3)] := rfl
theorem uX10_branchesOf_102 : uX10_branchesOf 102 = none := rfl
theorem bX10_branchesOf_119 : bX10_branchesOf 119 = [(.return_, 1)] := rfl
theorem uX10_branchesOf_119 : uX10_branchesOf 119 = none := rfl
theorem aX10_branchesOf_200 : aX10_branchesOf 200 = some (2, false, 9, 0, C_X10_numberOf) := rfl
theorem aX10_branchesOf_203 : aX10_branchesOf 203 = some (5, false, 9, 0, C_X10_steps) := rfl
def mX10_branchesOf : Room := { frames := 1, cells := 1, slots := 6, locals := 27 }
set_option maxRecDepth 100000 in
set_option maxHeartbeats 4000000 in
theorem okX10_branchesOf : pvOkM fX10 aX10_branchesOf kX10 eX10 none bX10_branchesOf uX10_branchesOf 7 C_X10_branchesOf := by
  intro Q SW hc as z h hS hz
  unfold C_X10_branchesOf at h
  split at h
  · rename_i id s n a
    obtain ⟨rfl, A, ⟨eA, hs, hw, hr, hl, hn, ha⟩, h2⟩ := h
    have hok := dsF_ok hw
    have h16 := okL_len hok
    obtain ⟨n, rfl⟩ : ∃ k : Nat, n = k := ⟨n.toNat, by omega⟩
    have es : z.1 49 n = ndF (dsF A) n := by rw [← liF_nd (f := z.1 49) (show n < (dsF A).length by omega), hr.2]
    have hsm := ndF_m (L := dsF A) (i := n) (by omega)
    have es15 := hok.2 _ hsm
    rw [Int.toNat_natCast] at h2
    obtain ⟨x, ex⟩ : ∃ s, ndF (dsF A) n = s := ⟨_, rfl⟩
    obtain ⟨a, rfl⟩ : ∃ n : Nat, a = n := ⟨a.toNat, by omega⟩
    rw [ex] at es es15 h2 hsm
    have hN := nVal_eq
    have hr1 := hr.1
    refine ⟨Nat.le_of_ble_eq_true rfl, ?_⟩
    have loop : ∀ (m k : Nat) (z' : pvM), k + m = nVal → frF [39, 50, 51] [] z z' → (∀ j, j ≠ 21 → z'.1 39 j = z.1 39 j) → z'.1 39 21 = (brK A x a k).length → (∀ b, b < (brK A x a k).length → z'.1 50 b = ixF (dsF A) (ndF (brK A x a k) b) ∧ z'.1 51 b = cvK A x a (ndF (brK A x a k) b) k) →
        SW 8 [some (vR 39), some (vI s), some (vI (n : Int)), some (vI (a : Int)), some (vI (k : Int)), none, none] z' := by
      intro m
      induction m using Nat.strongRecOn with
      | _ m ih =>
        intro k z' hk f1 k1 e21 o1
        by_cases hx4 : nVal ≤ k
        · have ek : k = nVal := by omega
          have q9 := h2 z' f1 k1 (by unfold brF; rw [← ek]; exact e21) (by unfold brF; rw [← ek]; exact o1)
          refine hc 20 _ _ _ fun _ _ => ?_
          simp only [pvSt1]
          simp only [C_X10_steps, C_X10_numberOf, pvE_aload_n0, pvLA_s, pvLd, pvE_iconst, pvE_putfield, pvPf_0, pvPf_1, fX10_209, pvSh_0, pvSh_1, pvSh_2, pvSh_3, pvSh_4, pvSh_5, pvSh_6, pvSh_7, pvSh_8, pvSh_9, pvSh_10, pvSh_11, pvSh_12, pvSh_13, pvSh_14, pvSh_15, pvSh_16, pvSh_17, pvSh_18, pvSh_19, pvSh_20, pvSh_21, pvSh_22, pvSh_23, pvSh_24, pvSh_25, pvSh_26, pvSh_27, pvSh_28, pvSh_29, pvSh_30, pvSh_31, pvSh_32, pvSh_33, pvSh_34, pvSh_35, pvSh_36, pvSh_37, pvSh_38, pvSh_39, pvSh_40, pvSh_41, pvSh_42, pvSh_43, pvSh_44, pvSh_45, pvSh_46, pvSh_47, pvSh_48, pvSh_49, pvSh_50, pvSh_51, pvSh_52, pvSh_53, pvSh_54, pvSh_55, pvSh_56, pvSh_57, pvSh_58, pvSh_59, pvE_istore, pvS1, List.length_cons, List.length_nil, pvClr_i, pvClr_r, pvClr_l, pvClr_d, pvClr_f, pvClr_n, pvE_iload, pvLI_s, pvE_sipush, pvE_icmp_ge, pvE_iload_n1, pvE_getfield, pvGf_0, pvGf_1, pvGf_2, fX10_42, pvRf_0_0, pvRf_0_1, pvRf_0_2, pvRf_0_3, pvRf_0_4, pvRf_0_5, pvRf_0_6, pvRf_0_7, pvRf_0_8, pvRf_0_9, pvRf_0_10, pvRf_1_0, pvRf_3_0, pvRf_5_0, pvRf_5_1, pvRf_5_2, pvRf_9_0, pvRf_9_1, pvRf_9_2, pvRf_13_0, pvRf_13_1, pvRf_13_2, pvRf_17_0, pvRf_17_2, pvRf_20_0, pvRf_20_1, pvRf_20_2, pvRf_24_0, pvRf_24_1, pvRf_24_2, pvRf_28_0, pvRf_28_1, pvRf_28_2, pvRf_28_3, pvRf_33_0, pvRf_33_1, pvRf_36_0, pvRf_36_1, pvRf_39_0, pvRf_39_1, pvRf_39_2, pvRf_39_5, pvRf_39_6, pvRf_39_9, pvRf_39_13, pvRf_39_15, pvRf_39_16, pvRf_39_17, pvRf_39_19, pvRf_39_20, pvRf_39_22, pvRf_39_23, pvRf_39_24, pvRf_39_25, pvRf_39_29, pvRf_39_30, pvE_iload_n2, pvE_iaload, pvAI, pvE_iload_n3, pvE_invokevirtual, pvC1_s, pvC2_s, pvAf_v, pvAf_x, pvPop, pvCs, pvCat, pvPush, aX10_branchesOf_203, aX10_branchesOf_200, fX10_45, pvE_icmp_eq, pvE_iinc, pvIc_s, pvE_goto, pvE_icmp_ne, pvE_iastore, fX10_48, pvE_dup_i, pvE_dup_r, pvE_iadd, pvE_dup2, pvE_return, bX10_branchesOf_0, uX10_branchesOf_0, bX10_branchesOf_8, uX10_branchesOf_8, bX10_branchesOf_39, uX10_branchesOf_39, bX10_branchesOf_66, uX10_branchesOf_66, bX10_branchesOf_102, uX10_branchesOf_102, bX10_branchesOf_119, uX10_branchesOf_119, pvMk_t, pvMk_f, pvMk_n, pvRecv_r, pvUp_nl, pvUp_same, pvUp_ap, pvSt_ap, pvX_c, pvX_ms, pvX_mn, pvE_nil, pvEn_i, pvEn_r, pvEn_l, pvEn_0, pvEn_s, pvRt, pvRv, pvTh, pvKc, pvGo, pvTgt, Int.toNat_natCast, false_and, and_false, true_and, and_true, if_true, if_false, reduceIte, reduceCtorEq, forall_const, false_or, or_false, true_or, or_true, ne_eq, not_true_eq_false, not_false_eq_true, implies_true, false_implies, Nat.reduceAdd, Nat.reduceSub, Nat.reduceMul, Nat.reduceEqDiff, Nat.reduceLT, Nat.reduceLeDiff, Int.reduceAdd, Int.reduceSub, Int.reduceMul, Int.reduceNeg, Int.reduceToNat, Int.reduceLE, Int.reduceLT, Int.reduceEq, Int.reduceNe, and_self]
          (repeat' first | with_reducible apply And.intro | with_reducible intro _)
          all_goals first
            | omega
            | exact q9
        · have g40 := f1.1 40 (by decide)
          have g48 := f1.1 48 (by decide)
          have g49 := f1.1 49 (by decide)
          have g18 := k1 18 (by decide)
          have hsb := sbF_r hw x (a : Int) (k : Int)
          have hym := dsF_mc hw hsm (a := (a : Int)) (v := (k : Int)) (by omega) (by omega)
          have hyr := ixF_r hym
          have hbo := brK_ok hw x a k
          have hb16 := okL_len hbo
          have hds := fun y (hy : y ∈ brK A x a k) => brK_ds hw hsm (a := (a : Int)) (by omega) (show k ≤ 216 by omega) hy
          obtain ⟨y, ey⟩ : ∃ y, sbF A x a k = y := ⟨_, rfl⟩
          rw [ey] at hsb hym hyr
          have ek1 : brK A x a (k + 1) = insF (brK A x a k) y := by rw [← ey]; rfl
          have ecv : ∀ t, cvK A x a t (k + 1) = cvK A x a t k + (if y = t then 1 else 0) := fun t => by rw [← ey]; rfl
          have seek : ∀ (mb b : Nat), b + mb = (brK A x a k).length → (∀ j, j < b → ndF (brK A x a k) j ≠ y) →
              SW 39 [some (vR 39), some (vI s), some (vI (n : Int)), some (vI (a : Int)), some (vI (k : Int)), some (vI (ixF (dsF A) y)), some (vI (b : Int))] z' := by
            intro mb
            induction mb using Nat.strongRecOn with
            | _ mb ihb =>
              intro b hb hnb
              refine hc 20 _ _ _ fun _ _ => ?_
              by_cases hbl : b < (brK A x a k).length
              · obtain ⟨ob1, ob2⟩ := o1 b hbl
                by_cases eb : ndF (brK A x a k) b = y
                · have hm : y ∈ brK A x a k := by rw [← eb]; exact ndF_m hbl
                  have ei : insF (brK A x a k) y = brK A x a k := if_pos hm
                  have q9 := ih (m - 1) (by omega) (k + 1) (pvUp z'.1 51 b (z'.1 51 b + 1), z'.2) (by omega) (by (repeat' first | assumption | exact frF_0 | (refine frF_u ?_ (by decide)) | (refine frF_s ?_ (by decide)) | (refine frF_l ?_ (by decide)))) (fun j hj => by simp (disch := omega) only [pvUp_ap, if_neg]; exact k1 j hj) (by rw [ek1, ei]; simp (disch := omega) only [pvUp_ap, if_neg]; exact e21) (fun b' hb' => by
                    rw [ek1, ei] at hb' ⊢
                    obtain ⟨p1, p2⟩ := o1 b' hb'
                    refine ⟨by simp (disch := omega) only [pvUp_ap, if_neg]; exact p1, ?_⟩
                    rw [ecv]
                    by_cases e : b' = b
                    · subst e
                      simp only [pvUp_ap, and_self, if_true, reduceIte]
                      rw [eb, if_pos rfl, p2, eb]
                    · rw [if_neg (fun h => e (ndF_inj hbo.1 hb' hbl (by rw [← h, eb])))]
                      simp (disch := omega) only [pvUp_ap, if_neg]
                      rw [p2, Int.add_zero])
                  have hcr := cvK_r A x a (ndF (brK A x a k) b) k
                  rw [ob2] at q9
                  rw [eb] at ob1
                  simp only [pvSt1]
                  simp only [e21, ob1, ob2, pvE_aload_n0, pvLA_s, pvLd, pvE_iconst, pvE_putfield, pvPf_0, pvPf_1, fX10_209, pvSh_0, pvSh_1, pvSh_2, pvSh_3, pvSh_4, pvSh_5, pvSh_6, pvSh_7, pvSh_8, pvSh_9, pvSh_10, pvSh_11, pvSh_12, pvSh_13, pvSh_14, pvSh_15, pvSh_16, pvSh_17, pvSh_18, pvSh_19, pvSh_20, pvSh_21, pvSh_22, pvSh_23, pvSh_24, pvSh_25, pvSh_26, pvSh_27, pvSh_28, pvSh_29, pvSh_30, pvSh_31, pvSh_32, pvSh_33, pvSh_34, pvSh_35, pvSh_36, pvSh_37, pvSh_38, pvSh_39, pvSh_40, pvSh_41, pvSh_42, pvSh_43, pvSh_44, pvSh_45, pvSh_46, pvSh_47, pvSh_48, pvSh_49, pvSh_50, pvSh_51, pvSh_52, pvSh_53, pvSh_54, pvSh_55, pvSh_56, pvSh_57, pvSh_58, pvSh_59, pvE_istore, pvS1, List.length_cons, List.length_nil, pvClr_i, pvClr_r, pvClr_l, pvClr_d, pvClr_f, pvClr_n, pvE_iload, pvLI_s, pvE_sipush, pvE_icmp_ge, pvE_iload_n1, pvE_getfield, pvGf_0, pvGf_1, pvGf_2, fX10_42, pvRf_0_0, pvRf_0_1, pvRf_0_2, pvRf_0_3, pvRf_0_4, pvRf_0_5, pvRf_0_6, pvRf_0_7, pvRf_0_8, pvRf_0_9, pvRf_0_10, pvRf_1_0, pvRf_3_0, pvRf_5_0, pvRf_5_1, pvRf_5_2, pvRf_9_0, pvRf_9_1, pvRf_9_2, pvRf_13_0, pvRf_13_1, pvRf_13_2, pvRf_17_0, pvRf_17_2, pvRf_20_0, pvRf_20_1, pvRf_20_2, pvRf_24_0, pvRf_24_1, pvRf_24_2, pvRf_28_0, pvRf_28_1, pvRf_28_2, pvRf_28_3, pvRf_33_0, pvRf_33_1, pvRf_36_0, pvRf_36_1, pvRf_39_0, pvRf_39_1, pvRf_39_2, pvRf_39_5, pvRf_39_6, pvRf_39_9, pvRf_39_13, pvRf_39_15, pvRf_39_16, pvRf_39_17, pvRf_39_19, pvRf_39_20, pvRf_39_22, pvRf_39_23, pvRf_39_24, pvRf_39_25, pvRf_39_29, pvRf_39_30, pvE_iload_n2, pvE_iaload, pvAI, pvE_iload_n3, pvE_invokevirtual, pvC1_s, pvC2_s, pvAf_v, pvAf_x, pvPop, pvCs, pvCat, pvPush, aX10_branchesOf_203, aX10_branchesOf_200, fX10_45, pvE_icmp_eq, pvE_iinc, pvIc_s, pvE_goto, pvE_icmp_ne, pvE_iastore, fX10_48, pvE_dup_i, pvE_dup_r, pvE_iadd, pvE_dup2, pvE_return, bX10_branchesOf_0, uX10_branchesOf_0, bX10_branchesOf_8, uX10_branchesOf_8, bX10_branchesOf_39, uX10_branchesOf_39, bX10_branchesOf_66, uX10_branchesOf_66, bX10_branchesOf_102, uX10_branchesOf_102, bX10_branchesOf_119, uX10_branchesOf_119, pvMk_t, pvMk_f, pvMk_n, pvRecv_r, pvUp_nl, pvUp_same, pvUp_ap, pvSt_ap, pvX_c, pvX_ms, pvX_mn, pvE_nil, pvEn_i, pvEn_r, pvEn_l, pvEn_0, pvEn_s, pvRt, pvRv, pvTh, pvKc, pvGo, pvTgt, Int.toNat_natCast, false_and, and_false, true_and, and_true, if_true, if_false, reduceIte, reduceCtorEq, forall_const, false_or, or_false, true_or, or_true, ne_eq, not_true_eq_false, not_false_eq_true, implies_true, false_implies, Nat.reduceAdd, Nat.reduceSub, Nat.reduceMul, Nat.reduceEqDiff, Nat.reduceLT, Nat.reduceLeDiff, Int.reduceAdd, Int.reduceSub, Int.reduceMul, Int.reduceNeg, Int.reduceToNat, Int.reduceLE, Int.reduceLT, Int.reduceEq, Int.reduceNe, and_self]
                  (repeat' first | with_reducible apply And.intro | with_reducible intro _)
                  all_goals first
                    | omega
                    | contradiction
                    | exact q9
                · have hne : ¬ ixF (dsF A) (ndF (brK A x a k) b) = ixF (dsF A) y := fun h => eb (ixF_inj (hds _ (ndF_m hbl)) hym h)
                  have q9 := ihb (mb - 1) (by omega) (b + 1) (by omega) (fun j hj => by
                    by_cases e : j = b
                    · subst e; exact eb
                    · exact hnb j (by omega))
                  simp only [pvSt1]
                  simp only [e21, ob1, pvE_aload_n0, pvLA_s, pvLd, pvE_iconst, pvE_putfield, pvPf_0, pvPf_1, fX10_209, pvSh_0, pvSh_1, pvSh_2, pvSh_3, pvSh_4, pvSh_5, pvSh_6, pvSh_7, pvSh_8, pvSh_9, pvSh_10, pvSh_11, pvSh_12, pvSh_13, pvSh_14, pvSh_15, pvSh_16, pvSh_17, pvSh_18, pvSh_19, pvSh_20, pvSh_21, pvSh_22, pvSh_23, pvSh_24, pvSh_25, pvSh_26, pvSh_27, pvSh_28, pvSh_29, pvSh_30, pvSh_31, pvSh_32, pvSh_33, pvSh_34, pvSh_35, pvSh_36, pvSh_37, pvSh_38, pvSh_39, pvSh_40, pvSh_41, pvSh_42, pvSh_43, pvSh_44, pvSh_45, pvSh_46, pvSh_47, pvSh_48, pvSh_49, pvSh_50, pvSh_51, pvSh_52, pvSh_53, pvSh_54, pvSh_55, pvSh_56, pvSh_57, pvSh_58, pvSh_59, pvE_istore, pvS1, List.length_cons, List.length_nil, pvClr_i, pvClr_r, pvClr_l, pvClr_d, pvClr_f, pvClr_n, pvE_iload, pvLI_s, pvE_sipush, pvE_icmp_ge, pvE_iload_n1, pvE_getfield, pvGf_0, pvGf_1, pvGf_2, fX10_42, pvRf_0_0, pvRf_0_1, pvRf_0_2, pvRf_0_3, pvRf_0_4, pvRf_0_5, pvRf_0_6, pvRf_0_7, pvRf_0_8, pvRf_0_9, pvRf_0_10, pvRf_1_0, pvRf_3_0, pvRf_5_0, pvRf_5_1, pvRf_5_2, pvRf_9_0, pvRf_9_1, pvRf_9_2, pvRf_13_0, pvRf_13_1, pvRf_13_2, pvRf_17_0, pvRf_17_2, pvRf_20_0, pvRf_20_1, pvRf_20_2, pvRf_24_0, pvRf_24_1, pvRf_24_2, pvRf_28_0, pvRf_28_1, pvRf_28_2, pvRf_28_3, pvRf_33_0, pvRf_33_1, pvRf_36_0, pvRf_36_1, pvRf_39_0, pvRf_39_1, pvRf_39_2, pvRf_39_5, pvRf_39_6, pvRf_39_9, pvRf_39_13, pvRf_39_15, pvRf_39_16, pvRf_39_17, pvRf_39_19, pvRf_39_20, pvRf_39_22, pvRf_39_23, pvRf_39_24, pvRf_39_25, pvRf_39_29, pvRf_39_30, pvE_iload_n2, pvE_iaload, pvAI, pvE_iload_n3, pvE_invokevirtual, pvC1_s, pvC2_s, pvAf_v, pvAf_x, pvPop, pvCs, pvCat, pvPush, aX10_branchesOf_203, aX10_branchesOf_200, fX10_45, pvE_icmp_eq, pvE_iinc, pvIc_s, pvE_goto, pvE_icmp_ne, pvE_iastore, fX10_48, pvE_dup_i, pvE_dup_r, pvE_iadd, pvE_dup2, pvE_return, bX10_branchesOf_0, uX10_branchesOf_0, bX10_branchesOf_8, uX10_branchesOf_8, bX10_branchesOf_39, uX10_branchesOf_39, bX10_branchesOf_66, uX10_branchesOf_66, bX10_branchesOf_102, uX10_branchesOf_102, bX10_branchesOf_119, uX10_branchesOf_119, pvMk_t, pvMk_f, pvMk_n, pvRecv_r, pvUp_nl, pvUp_same, pvUp_ap, pvSt_ap, pvX_c, pvX_ms, pvX_mn, pvE_nil, pvEn_i, pvEn_r, pvEn_l, pvEn_0, pvEn_s, pvRt, pvRv, pvTh, pvKc, pvGo, pvTgt, Int.toNat_natCast, false_and, and_false, true_and, and_true, if_true, if_false, reduceIte, reduceCtorEq, forall_const, false_or, or_false, true_or, or_true, ne_eq, not_true_eq_false, not_false_eq_true, implies_true, false_implies, Nat.reduceAdd, Nat.reduceSub, Nat.reduceMul, Nat.reduceEqDiff, Nat.reduceLT, Nat.reduceLeDiff, Int.reduceAdd, Int.reduceSub, Int.reduceMul, Int.reduceNeg, Int.reduceToNat, Int.reduceLE, Int.reduceLT, Int.reduceEq, Int.reduceNe, and_self]
                  (repeat' first | with_reducible apply And.intro | with_reducible intro _)
                  all_goals first
                    | omega
                    | contradiction
                    | exact q9
              · obtain rfl : b = (brK A x a k).length := by omega
                have hm : y ∉ brK A x a k := fun hm => by
                  obtain ⟨p1, p2⟩ := ixN_lt hm
                  exact hnb _ p1 p2
                have ei : insF (brK A x a k) y = brK A x a k ++ [y] := if_neg hm
                have hlt := okL_lt hbo hsb hm
                have q9 := ih (m - 1) (by omega) (k + 1) (pvUp (pvUp (pvUp (pvUp z'.1 50 (brK A x a k).length (ixF (dsF A) y)) 51 (brK A x a k).length 0) 39 21 (((brK A x a k).length : Int) + 1)) 51 (brK A x a k).length 1, z'.2) (by omega) (by (repeat' first | assumption | exact frF_0 | (refine frF_u ?_ (by decide)) | (refine frF_s ?_ (by decide)) | (refine frF_l ?_ (by decide)))) (fun j hj => by simp (disch := omega) only [pvUp_ap, if_neg]; exact k1 j hj)
                  (by rw [ek1, ei]; simp [pvUp_ap]) (fun b' hb' => by
                    rw [ek1, ei] at hb' ⊢
                    rw [List.length_append, List.length_singleton] at hb'
                    rw [ecv]
                    by_cases e : b' = (brK A x a k).length
                    · subst e
                      rw [ndF_b, if_pos rfl, cvK_0 hm]
                      simp [pvUp_ap]
                    · rw [ndF_a (by omega)]
                      obtain ⟨p1, p2⟩ := o1 b' (by omega)
                      rw [if_neg (fun h => hm (by rw [h]; exact ndF_m (by omega))), Int.add_zero]
                      simp (disch := omega) only [pvUp_ap, if_neg]
                      exact ⟨p1, p2⟩)
                simp only [pvSt1]
                simp only [e21, pvE_aload_n0, pvLA_s, pvLd, pvE_iconst, pvE_putfield, pvPf_0, pvPf_1, fX10_209, pvSh_0, pvSh_1, pvSh_2, pvSh_3, pvSh_4, pvSh_5, pvSh_6, pvSh_7, pvSh_8, pvSh_9, pvSh_10, pvSh_11, pvSh_12, pvSh_13, pvSh_14, pvSh_15, pvSh_16, pvSh_17, pvSh_18, pvSh_19, pvSh_20, pvSh_21, pvSh_22, pvSh_23, pvSh_24, pvSh_25, pvSh_26, pvSh_27, pvSh_28, pvSh_29, pvSh_30, pvSh_31, pvSh_32, pvSh_33, pvSh_34, pvSh_35, pvSh_36, pvSh_37, pvSh_38, pvSh_39, pvSh_40, pvSh_41, pvSh_42, pvSh_43, pvSh_44, pvSh_45, pvSh_46, pvSh_47, pvSh_48, pvSh_49, pvSh_50, pvSh_51, pvSh_52, pvSh_53, pvSh_54, pvSh_55, pvSh_56, pvSh_57, pvSh_58, pvSh_59, pvE_istore, pvS1, List.length_cons, List.length_nil, pvClr_i, pvClr_r, pvClr_l, pvClr_d, pvClr_f, pvClr_n, pvE_iload, pvLI_s, pvE_sipush, pvE_icmp_ge, pvE_iload_n1, pvE_getfield, pvGf_0, pvGf_1, pvGf_2, fX10_42, pvRf_0_0, pvRf_0_1, pvRf_0_2, pvRf_0_3, pvRf_0_4, pvRf_0_5, pvRf_0_6, pvRf_0_7, pvRf_0_8, pvRf_0_9, pvRf_0_10, pvRf_1_0, pvRf_3_0, pvRf_5_0, pvRf_5_1, pvRf_5_2, pvRf_9_0, pvRf_9_1, pvRf_9_2, pvRf_13_0, pvRf_13_1, pvRf_13_2, pvRf_17_0, pvRf_17_2, pvRf_20_0, pvRf_20_1, pvRf_20_2, pvRf_24_0, pvRf_24_1, pvRf_24_2, pvRf_28_0, pvRf_28_1, pvRf_28_2, pvRf_28_3, pvRf_33_0, pvRf_33_1, pvRf_36_0, pvRf_36_1, pvRf_39_0, pvRf_39_1, pvRf_39_2, pvRf_39_5, pvRf_39_6, pvRf_39_9, pvRf_39_13, pvRf_39_15, pvRf_39_16, pvRf_39_17, pvRf_39_19, pvRf_39_20, pvRf_39_22, pvRf_39_23, pvRf_39_24, pvRf_39_25, pvRf_39_29, pvRf_39_30, pvE_iload_n2, pvE_iaload, pvAI, pvE_iload_n3, pvE_invokevirtual, pvC1_s, pvC2_s, pvAf_v, pvAf_x, pvPop, pvCs, pvCat, pvPush, aX10_branchesOf_203, aX10_branchesOf_200, fX10_45, pvE_icmp_eq, pvE_iinc, pvIc_s, pvE_goto, pvE_icmp_ne, pvE_iastore, fX10_48, pvE_dup_i, pvE_dup_r, pvE_iadd, pvE_dup2, pvE_return, bX10_branchesOf_0, uX10_branchesOf_0, bX10_branchesOf_8, uX10_branchesOf_8, bX10_branchesOf_39, uX10_branchesOf_39, bX10_branchesOf_66, uX10_branchesOf_66, bX10_branchesOf_102, uX10_branchesOf_102, bX10_branchesOf_119, uX10_branchesOf_119, pvMk_t, pvMk_f, pvMk_n, pvRecv_r, pvUp_nl, pvUp_same, pvUp_ap, pvSt_ap, pvX_c, pvX_ms, pvX_mn, pvE_nil, pvEn_i, pvEn_r, pvEn_l, pvEn_0, pvEn_s, pvRt, pvRv, pvTh, pvKc, pvGo, pvTgt, Int.toNat_natCast, false_and, and_false, true_and, and_true, if_true, if_false, reduceIte, reduceCtorEq, forall_const, false_or, or_false, true_or, or_true, ne_eq, not_true_eq_false, not_false_eq_true, implies_true, false_implies, Nat.reduceAdd, Nat.reduceSub, Nat.reduceMul, Nat.reduceEqDiff, Nat.reduceLT, Nat.reduceLeDiff, Int.reduceAdd, Int.reduceSub, Int.reduceMul, Int.reduceNeg, Int.reduceToNat, Int.reduceLE, Int.reduceLT, Int.reduceEq, Int.reduceNe, and_self]
                (repeat' first | with_reducible apply And.intro | with_reducible intro _)
                all_goals first
                  | omega
                  | contradiction
                  | exact q9
          have q8 := seek (brK A x a k).length 0 (by omega) (fun j hj => absurd hj (Nat.not_lt_zero _))
          refine hc 20 _ _ _ fun _ _ => ?_
          simp only [pvSt1]
          simp only [C_X10_steps, C_X10_numberOf, g40, g48, g49, g18, eA, es, ey, pvE_aload_n0, pvLA_s, pvLd, pvE_iconst, pvE_putfield, pvPf_0, pvPf_1, fX10_209, pvSh_0, pvSh_1, pvSh_2, pvSh_3, pvSh_4, pvSh_5, pvSh_6, pvSh_7, pvSh_8, pvSh_9, pvSh_10, pvSh_11, pvSh_12, pvSh_13, pvSh_14, pvSh_15, pvSh_16, pvSh_17, pvSh_18, pvSh_19, pvSh_20, pvSh_21, pvSh_22, pvSh_23, pvSh_24, pvSh_25, pvSh_26, pvSh_27, pvSh_28, pvSh_29, pvSh_30, pvSh_31, pvSh_32, pvSh_33, pvSh_34, pvSh_35, pvSh_36, pvSh_37, pvSh_38, pvSh_39, pvSh_40, pvSh_41, pvSh_42, pvSh_43, pvSh_44, pvSh_45, pvSh_46, pvSh_47, pvSh_48, pvSh_49, pvSh_50, pvSh_51, pvSh_52, pvSh_53, pvSh_54, pvSh_55, pvSh_56, pvSh_57, pvSh_58, pvSh_59, pvE_istore, pvS1, List.length_cons, List.length_nil, pvClr_i, pvClr_r, pvClr_l, pvClr_d, pvClr_f, pvClr_n, pvE_iload, pvLI_s, pvE_sipush, pvE_icmp_ge, pvE_iload_n1, pvE_getfield, pvGf_0, pvGf_1, pvGf_2, fX10_42, pvRf_0_0, pvRf_0_1, pvRf_0_2, pvRf_0_3, pvRf_0_4, pvRf_0_5, pvRf_0_6, pvRf_0_7, pvRf_0_8, pvRf_0_9, pvRf_0_10, pvRf_1_0, pvRf_3_0, pvRf_5_0, pvRf_5_1, pvRf_5_2, pvRf_9_0, pvRf_9_1, pvRf_9_2, pvRf_13_0, pvRf_13_1, pvRf_13_2, pvRf_17_0, pvRf_17_2, pvRf_20_0, pvRf_20_1, pvRf_20_2, pvRf_24_0, pvRf_24_1, pvRf_24_2, pvRf_28_0, pvRf_28_1, pvRf_28_2, pvRf_28_3, pvRf_33_0, pvRf_33_1, pvRf_36_0, pvRf_36_1, pvRf_39_0, pvRf_39_1, pvRf_39_2, pvRf_39_5, pvRf_39_6, pvRf_39_9, pvRf_39_13, pvRf_39_15, pvRf_39_16, pvRf_39_17, pvRf_39_19, pvRf_39_20, pvRf_39_22, pvRf_39_23, pvRf_39_24, pvRf_39_25, pvRf_39_29, pvRf_39_30, pvE_iload_n2, pvE_iaload, pvAI, pvE_iload_n3, pvE_invokevirtual, pvC1_s, pvC2_s, pvAf_v, pvAf_x, pvPop, pvCs, pvCat, pvPush, aX10_branchesOf_203, aX10_branchesOf_200, fX10_45, pvE_icmp_eq, pvE_iinc, pvIc_s, pvE_goto, pvE_icmp_ne, pvE_iastore, fX10_48, pvE_dup_i, pvE_dup_r, pvE_iadd, pvE_dup2, pvE_return, bX10_branchesOf_0, uX10_branchesOf_0, bX10_branchesOf_8, uX10_branchesOf_8, bX10_branchesOf_39, uX10_branchesOf_39, bX10_branchesOf_66, uX10_branchesOf_66, bX10_branchesOf_102, uX10_branchesOf_102, bX10_branchesOf_119, uX10_branchesOf_119, pvMk_t, pvMk_f, pvMk_n, pvRecv_r, pvUp_nl, pvUp_same, pvUp_ap, pvSt_ap, pvX_c, pvX_ms, pvX_mn, pvE_nil, pvEn_i, pvEn_r, pvEn_l, pvEn_0, pvEn_s, pvRt, pvRv, pvTh, pvKc, pvGo, pvTgt, Int.toNat_natCast, false_and, and_false, true_and, and_true, if_true, if_false, reduceIte, reduceCtorEq, forall_const, false_or, or_false, true_or, or_true, ne_eq, not_true_eq_false, not_false_eq_true, implies_true, false_implies, Nat.reduceAdd, Nat.reduceSub, Nat.reduceMul, Nat.reduceEqDiff, Nat.reduceLT, Nat.reduceLeDiff, Int.reduceAdd, Int.reduceSub, Int.reduceMul, Int.reduceNeg, Int.reduceToNat, Int.reduceLE, Int.reduceLT, Int.reduceEq, Int.reduceNe, and_self]
          (repeat' first | with_reducible apply And.intro | with_reducible intro _)
          all_goals first
            | omega
            | assumption
            | skip
          all_goals
            refine ⟨dsF A, ⟨hr1, hr.2, h16, fun hn => absurd hym hn⟩, fun _ => ?_, fun hn => absurd hym hn⟩
            first
              | exact q8
              | exact ⟨by omega, q8⟩
              | exact ⟨by omega, by omega, q8⟩
    refine hc 20 _ _ _ fun _ _ => ?_
    simp only [pvSt1]
    simp only [pvE_aload_n0, pvLA_s, pvLd, pvE_iconst, pvE_putfield, pvPf_0, pvPf_1, fX10_209, pvSh_0, pvSh_1, pvSh_2, pvSh_3, pvSh_4, pvSh_5, pvSh_6, pvSh_7, pvSh_8, pvSh_9, pvSh_10, pvSh_11, pvSh_12, pvSh_13, pvSh_14, pvSh_15, pvSh_16, pvSh_17, pvSh_18, pvSh_19, pvSh_20, pvSh_21, pvSh_22, pvSh_23, pvSh_24, pvSh_25, pvSh_26, pvSh_27, pvSh_28, pvSh_29, pvSh_30, pvSh_31, pvSh_32, pvSh_33, pvSh_34, pvSh_35, pvSh_36, pvSh_37, pvSh_38, pvSh_39, pvSh_40, pvSh_41, pvSh_42, pvSh_43, pvSh_44, pvSh_45, pvSh_46, pvSh_47, pvSh_48, pvSh_49, pvSh_50, pvSh_51, pvSh_52, pvSh_53, pvSh_54, pvSh_55, pvSh_56, pvSh_57, pvSh_58, pvSh_59, pvE_istore, pvS1, List.length_cons, List.length_nil, pvClr_i, pvClr_r, pvClr_l, pvClr_d, pvClr_f, pvClr_n, pvE_iload, pvLI_s, pvE_sipush, pvE_icmp_ge, pvE_iload_n1, pvE_getfield, pvGf_0, pvGf_1, pvGf_2, fX10_42, pvRf_0_0, pvRf_0_1, pvRf_0_2, pvRf_0_3, pvRf_0_4, pvRf_0_5, pvRf_0_6, pvRf_0_7, pvRf_0_8, pvRf_0_9, pvRf_0_10, pvRf_1_0, pvRf_3_0, pvRf_5_0, pvRf_5_1, pvRf_5_2, pvRf_9_0, pvRf_9_1, pvRf_9_2, pvRf_13_0, pvRf_13_1, pvRf_13_2, pvRf_17_0, pvRf_17_2, pvRf_20_0, pvRf_20_1, pvRf_20_2, pvRf_24_0, pvRf_24_1, pvRf_24_2, pvRf_28_0, pvRf_28_1, pvRf_28_2, pvRf_28_3, pvRf_33_0, pvRf_33_1, pvRf_36_0, pvRf_36_1, pvRf_39_0, pvRf_39_1, pvRf_39_2, pvRf_39_5, pvRf_39_6, pvRf_39_9, pvRf_39_13, pvRf_39_15, pvRf_39_16, pvRf_39_17, pvRf_39_19, pvRf_39_20, pvRf_39_22, pvRf_39_23, pvRf_39_24, pvRf_39_25, pvRf_39_29, pvRf_39_30, pvE_iload_n2, pvE_iaload, pvAI, pvE_iload_n3, pvE_invokevirtual, pvC1_s, pvC2_s, pvAf_v, pvAf_x, pvPop, pvCs, pvCat, pvPush, aX10_branchesOf_203, aX10_branchesOf_200, fX10_45, pvE_icmp_eq, pvE_iinc, pvIc_s, pvE_goto, pvE_icmp_ne, pvE_iastore, fX10_48, pvE_dup_i, pvE_dup_r, pvE_iadd, pvE_dup2, pvE_return, bX10_branchesOf_0, uX10_branchesOf_0, bX10_branchesOf_8, uX10_branchesOf_8, bX10_branchesOf_39, uX10_branchesOf_39, bX10_branchesOf_66, uX10_branchesOf_66, bX10_branchesOf_102, uX10_branchesOf_102, bX10_branchesOf_119, uX10_branchesOf_119, pvMk_t, pvMk_f, pvMk_n, pvRecv_r, pvUp_nl, pvUp_same, pvUp_ap, pvSt_ap, pvX_c, pvX_ms, pvX_mn, pvE_nil, pvEn_i, pvEn_r, pvEn_l, pvEn_0, pvEn_s, pvRt, pvRv, pvTh, pvKc, pvGo, pvTgt, Int.toNat_natCast, false_and, and_false, true_and, and_true, if_true, if_false, reduceIte, reduceCtorEq, forall_const, false_or, or_false, true_or, or_true, ne_eq, not_true_eq_false, not_false_eq_true, implies_true, false_implies, Nat.reduceAdd, Nat.reduceSub, Nat.reduceMul, Nat.reduceEqDiff, Nat.reduceLT, Nat.reduceLeDiff, Int.reduceAdd, Int.reduceSub, Int.reduceMul, Int.reduceNeg, Int.reduceToNat, Int.reduceLE, Int.reduceLT, Int.reduceEq, Int.reduceNe, and_self]
    (repeat' first | with_reducible apply And.intro | with_reducible intro _)
    all_goals first
      | omega
      | exact loop nVal 0 _ (by omega) (by (repeat' first | assumption | exact frF_0 | (refine frF_u ?_ (by decide)) | (refine frF_s ?_ (by decide)) | (refine frF_l ?_ (by decide)))) (fun j hj => by simp (disch := omega) only [pvUp_ap, if_neg]) (by simp [pvUp_ap, brK]) (fun b hb => absurd hb (Nat.not_lt_zero _))
  · exact h.elim
