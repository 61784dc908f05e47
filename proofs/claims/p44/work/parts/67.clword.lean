def C_X5_takeEvent : pvC
  | [.inr (.inr (.inl id)), .inr (.inr (.inl p)), .inr (.inr (.inl q)), .inl pos, .inl i, .inr (.inr (.inl w))], z, Q => id = 28 ∧ ∃ (A B : Aut) (Qs : List Int) (F : Nat), (w = 20 ∧ quF z Qs ∧ psS z p A ∧ psS z q B ∧ F ≤ 10 ∧ fdF A B F ∧ (0 ≤ i ∧ i < F) ∧ saP A B z Qs (F + 2) ∧ (∀ c, c ∈ Qs ↔ ∃ n, n ≤ F ∧ rcK A B n c) ∧ cqP A B z Qs F ∧ pos = ixN Qs (wcF A B F i.toNat) ∧ WvF z.1 ∧ z.1 20 4 = i) ∧
      ∀ z' : pvM, frF [20, 21, 22, 23] [] z z' → WvF z'.1 → z'.1 20 4 = i + 1 → (∀ j : Nat, (j : Int) < i → z'.1 21 j = z.1 21 j ∧ z'.1 22 j = z.1 22 j) → z'.1 21 i.toNat = ((nkF A B F i.toNat (wcF A B F i.toNat) % 5 : Nat) : Int) → z'.1 22 i.toNat = ((nkF A B F i.toNat (wcF A B F i.toNat) / 5 : Nat) : Int) → Q (.inl (some (vI ((ixN Qs (wcF A B F (i.toNat + 1)) : Nat) : Int)))) z'
  | _, _, _ => False
def bX5_takeEvent : Nat → List (Instr × Nat)
  | 0 => [(.iconst 0, 1), (.istore 6, 2)]
  | 3 => [(.iload 6, 2), (.iconst 3, 1), (.if_icmp .ge 84, 3), (.iconst 0, 1), (.istore 7, 2)]
  | 12 => [(.iload 7, 2), (.iconst 4, 1), (.if_icmp .gt 69, 3), (.aload_n 0, 1), (.aload_n 1, 1), (.aload_n 2, 1), (.aload_n 0, 1), (.iload_n 3, 1), (.invokevirtual 67, 3), (.iload 6, 2), (.iload 7, 2), (.invokevirtual 106, 3), (.istore 8, 2), (.iload 8, 2), (.aload_n 0, 1), (.iload 4, 2), (.iconst 1, 1), (.iadd, 1), (.invokevirtual 99, 3), (.if_icmp .lt 33, 3), (.iload 7, 2), (.aload_n 0, 1), (.iload 8, 2), (.invokevirtual 110, 3), (.iadd, 1), (.aload_n 0, 1), (.iload_n 3, 1), (.invokevirtual 110, 3), (.if_icmp .ne 16, 3), (.aload 5, 2), (.iload 7, 2), (.iload 6, 2), (.invokevirtual 118, 3), (.pop, 1), (.iload 8, 2), (.ireturn, 1)]
  | 78 => [(.iinc 7 1, 3), (.goto (-69), 3)]
  | 84 => [(.iinc 6 1, 3), (.goto (-84), 3)]
  | 90 => [(.iload_n 3, 1), (.ireturn, 1)]
  | _ => []
def uX5_takeEvent : Nat → Option (List Bool)
  | 3 => some [true, true, true, true, true, true, true, false, false]
  | 12 => some [true, true, true, true, true, true, true, true, false]
  | _ => none
def aX5_takeEvent : pvCa
  | 67 => some (2, false, 5, 0, C_X5_configurationAt)
  | 99 => some (2, false, 5, 0, C_X5_startOf)
  | 106 => some (6, false, 5, 0, C_X5_positionBehind)
  | 110 => some (2, false, 5, 0, C_X5_costAt)
  | 118 => some (3, false, 6, 0, C_X6_append)
  | _ => none
theorem bX5_takeEvent_0 : bX5_takeEvent 0 = [(.iconst 0, 1), (.istore 6, 2)] := rfl
theorem uX5_takeEvent_0 : uX5_takeEvent 0 = none := rfl
theorem bX5_takeEvent_3 : bX5_takeEvent 3 = [(.iload 6, 2), (.iconst 3, 1), (.if_icmp .ge 84, 3), (.iconst 0, 1), (.istore 7, 2)] := rfl
theorem uX5_takeEvent_3 : uX5_takeEvent 3 = some [true, true, true, true, true, true, true, false, false] := rfl
theorem bX5_takeEvent_12 : bX5_takeEvent 12 = [(.iload 7, 2), (.iconst 4, 1), (.if_icmp .gt 69, 3), (.aload_n 0, 1), (.aload_n 1, 1), (.aload_n 2, 1), (.aload_n 0, 1), (.iload_n 3, 1), (.invokevirtual 67, 3), (.iload 6, 2), (.iload 7, 2), (.invokevirtual 106, 3), (.istore 8, 2), (.iload 8, 2), (.aload_n 0, 1), (.iload 4, 2), (.iconst 1, 1), (.iadd, 1), (.invokevirtual 99, 3), (.if_icmp .lt 33, 3), (.iload 7, 2), (.aload_n 0, 1), (.iload 8, 2), (.invokevirtual 110, 3), (.iadd, 1), (.aload_n 0, 1), (.iload_n 3, 1), (.invokevirtual 110, 3), (.if_icmp .ne 16, 3), (.aload 5, 2), (.iload 7, 2), (.iload 6, 2), (.invokevirtual 118, 3), (.pop, 1), (.iload 8, 2), (.ireturn, 1)] := rfl
theorem uX5_takeEvent_12 : uX5_takeEvent 12 = some [true, true, true, true, true, true, true, true, false] := rfl
theorem bX5_takeEvent_78 : bX5_takeEvent 78 = [(.iinc 7 1, 3), (.goto (-69), 3)] := rfl
theorem uX5_takeEvent_78 : uX5_takeEvent 78 = none := rfl
theorem bX5_takeEvent_84 : bX5_takeEvent 84 = [(.iinc 6 1, 3), (.goto (-84), 3)] := rfl
theorem uX5_takeEvent_84 : uX5_takeEvent 84 = none := rfl
theorem bX5_takeEvent_90 : bX5_takeEvent 90 = [(.iload_n 3, 1), (.ireturn, 1)] := rfl
theorem uX5_takeEvent_90 : uX5_takeEvent 90 = none := rfl
theorem aX5_takeEvent_67 : aX5_takeEvent 67 = some (2, false, 5, 0, C_X5_configurationAt) := rfl
theorem aX5_takeEvent_99 : aX5_takeEvent 99 = some (2, false, 5, 0, C_X5_startOf) := rfl
theorem aX5_takeEvent_106 : aX5_takeEvent 106 = some (6, false, 5, 0, C_X5_positionBehind) := rfl
theorem aX5_takeEvent_110 : aX5_takeEvent 110 = some (2, false, 5, 0, C_X5_costAt) := rfl
theorem aX5_takeEvent_118 : aX5_takeEvent 118 = some (3, false, 6, 0, C_X6_append) := rfl
set_option maxRecDepth 100000 in
set_option maxHeartbeats 4000000 in
theorem okX5_takeEvent : pvOkM fX5 aX5_takeEvent kX5 eX5 (some .int) bX5_takeEvent uX5_takeEvent 9 C_X5_takeEvent := by
  intro Q SW hc as z h hS hz
  unfold C_X5_takeEvent at h
  split at h
  · rename_i id p q pos i w
    obtain ⟨rfl, A, B, Qs, F, ⟨rfl, hq, hA, hB, hF, hfd, hi, hs, ha, hcq, hpos, hwv, hw4⟩, h2⟩ := h
    obtain ⟨i, rfl⟩ : ∃ n : Nat, i = n := ⟨i.toNat, by omega⟩
    rw [Int.toNat_natCast] at hpos h2
    have hlen := qu_len hq.2.2.2.1 hq.2.2.2.2
    have hid1 := hA.1
    have hid2 := hB.1
    have wA := hA.2.2.2.2
    have wB := hB.2.2.2.2
    obtain ⟨hl1, hl2⟩ := wc_ok wA wB hfd hF i (by omega)
    obtain ⟨k1, k2, k3⟩ := nk_sp (F := F) (i := i) (by omega) hl2
    have ewc : wcF A B F (i + 1) = stF1 A B (wcF A B F i) ((nkF A B F i (wcF A B F i) / 5 : Nat) : Int) ((nkF A B F i (wcF A B F i) % 5 : Nat) : Int) := rfl
    rw [ewc] at h2
    obtain ⟨c, ec⟩ : ∃ c, wcF A B F i = c := ⟨_, rfl⟩
    rw [ec] at hl1 hl2 k1 k2 k3 h2 hpos
    obtain ⟨K, eK⟩ : ∃ K, nkF A B F i c = K := ⟨_, rfl⟩
    rw [eK] at k1 k2 k3 h2
    have hmc : c ∈ Qs := (ha c).mpr ⟨i, by omega, hl1.1⟩
    obtain ⟨x1, x2⟩ := ixN_lt hmc
    have hok := hq.2.2.2.2 _ hmc
    have epos : z.1 30 (ixN Qs c) = c := by rw [hq.2.1 _ x1, x2]
    have ecost : z.1 31 (ixN Qs c) = coK A B F (F - i) c := by
      have := hcq (ixN Qs c) (F - i) x1 (by omega) (by rw [x2, show F - (F - i) = i by omega]; exact hl1)
      rw [x2] at this
      exact this
    obtain ⟨b3, b4⟩ := hs (i + 1) (by omega) (by omega)
    have n1 : ((i : Int) + 1).toNat = i + 1 := by omega
    have hv := wv_r hwv
    have h4r := hwv.1.1.1
    subst hpos
    have hlc : lcP A B z Qs (i + 1) (coK A B F (F - (i + 1))) (z.1 32 (i + 1)) c := by
      refine ⟨b3.1, fun x hx => ?_, ⟨i, rfl, hl1.1⟩, fun x hx => (ha x).mpr ⟨i + 1, by omega, hx⟩, fun x hx hl => ?_, fun x => coK_r A B F (F - (i + 1)) x⟩
      · obtain ⟨y1, y2⟩ := ixN_lt hx
        have := b4 _ y1
        rw [y2] at this
        rw [← this, show ixF Qs x = ((ixN Qs x : Nat) : Int) from if_pos hx]
        omega
      · obtain ⟨y1, y2⟩ := ixN_lt hx
        have := hcq (ixN Qs x) (F - (i + 1)) y1 (by omega) (by rw [y2, show F - (F - (i + 1)) = i + 1 by omega]; exact hl)
        rw [y2] at this
        exact this
    refine ⟨Nat.le_of_ble_eq_true rfl, ?_⟩
    have nx : ∀ a d : Nat, a < 3 → d < 5 → (nxP A B F i c (5 * a + d) ↔ (z.1 32 (i + 1) ≤ ixF Qs (stF1 A B c (a : Int) (d : Int)) ∧ (d : Int) + z.1 31 (ixF Qs (stF1 A B c (a : Int) (d : Int))).toNat = coK A B F (F - i) c)) := by
      intro a d ha3 hd5
      have hli := lc_iff hlc hq.2.2.2.2 (a := (a : Int)) (d := (d : Int)) (by omega) (by omega)
      unfold nxP
      rw [show (5 * a + d) / 5 = a by omega, show (5 * a + d) % 5 = d by omega, lvB_t, ← hli]
      refine and_congr_right fun h9 => ?_
      have hlv := hli.mp h9
      have hm := hlc.2.2.2.1 _ hlv.1
      have e31 := hlc.2.2.2.2.1 _ hm hlv
      have eix : (ixF Qs (stF1 A B c (a : Int) (d : Int))).toNat = ixN Qs (stF1 A B c (a : Int) (d : Int)) := by unfold ixF; rw [if_pos hm, Int.toNat_natCast]
      rw [eix, e31]
      omega
    have nxr : ∀ a d : Nat, a < 3 → d < 5 → z.1 32 (i + 1) ≤ ixF Qs (stF1 A B c (a : Int) (d : Int)) → 0 ≤ z.1 31 (ixF Qs (stF1 A B c (a : Int) (d : Int))).toNat ∧ z.1 31 (ixF Qs (stF1 A B c (a : Int) (d : Int))).toNat ≤ 1000 := by
      intro a d ha3 hd5 h9
      have hlv := (lc_iff hlc hq.2.2.2.2 (a := (a : Int)) (d := (d : Int)) (by omega) (by omega)).mp h9
      have hm := hlc.2.2.2.1 _ hlv.1
      have e31 := hlc.2.2.2.2.1 _ hm hlv
      have eix : (ixF Qs (stF1 A B c (a : Int) (d : Int))).toNat = ixN Qs (stF1 A B c (a : Int) (d : Int)) := by unfold ixF; rw [if_pos hm, Int.toNat_natCast]
      rw [eix, e31]
      exact coK_r A B F _ _
    have outer : ∀ (ma a : Nat), a + ma = 3 → 5 * a ≤ K → SW 3 [some (vR 28), some (vR p), some (vR q), some (vI ((ixN Qs c : Nat) : Int)), some (vI (i : Int)), some (vR 20), some (vI (a : Int)), none, none] z := by
      intro ma
      induction ma using Nat.strongRecOn with
      | _ ma iha =>
        intro a haa haK
        have inner : a < 3 → ∀ (md d : Nat), d + md = 5 → 5 * a + d ≤ K → SW 12 [some (vR 28), some (vR p), some (vR q), some (vI ((ixN Qs c : Nat) : Int)), some (vI (i : Int)), some (vR 20), some (vI (a : Int)), some (vI (d : Int)), none] z := by
          intro ha3 md
          induction md using Nat.strongRecOn with
          | _ md ihd =>
            intro d hd hdK
            refine hc 20 _ _ _ fun _ _ => ?_
            by_cases hd5 : 5 ≤ d
            · have q9 := iha (ma - 1) (by omega) (a + 1) (by omega) (by omega)
              simp only [pvSt1]
              simp only [pvE_iconst, pvE_istore, pvS1, List.length_cons, List.length_nil, pvClr_i, pvClr_r, pvClr_l, pvClr_d, pvClr_f, pvClr_n, pvE_iload, pvLI_s, pvLd, pvE_icmp_ge, pvE_icmp_gt, pvE_aload_n0, pvLA_s, pvE_aload_n1, pvE_aload_n2, pvE_iload_n3, pvE_invokevirtual, pvC1_s, pvC2_s, pvAf_v, pvAf_x, pvPop, pvCs, pvCat, pvPush, aX5_takeEvent_67, pvSh_0, pvSh_1, pvSh_2, pvSh_3, pvSh_4, pvSh_5, pvSh_6, pvSh_7, pvSh_8, pvSh_9, pvSh_10, pvSh_11, pvSh_12, pvSh_13, pvSh_14, pvSh_15, pvSh_16, pvSh_17, pvSh_18, pvSh_19, pvSh_20, pvSh_21, pvSh_22, pvSh_23, pvSh_24, pvSh_25, pvSh_26, pvSh_27, pvSh_28, pvSh_29, pvSh_30, pvSh_31, pvSh_32, pvSh_33, pvSh_34, pvSh_35, pvSh_36, pvSh_37, pvSh_38, aX5_takeEvent_106, pvE_iadd, aX5_takeEvent_99, pvE_icmp_lt, aX5_takeEvent_110, pvE_icmp_ne, pvE_aload, aX5_takeEvent_118, pvE_pop_i, pvE_pop_r, pvE_ireturn, pvE_iinc, pvIc_s, pvE_goto, bX5_takeEvent_0, uX5_takeEvent_0, bX5_takeEvent_3, uX5_takeEvent_3, bX5_takeEvent_12, uX5_takeEvent_12, bX5_takeEvent_78, uX5_takeEvent_78, bX5_takeEvent_84, uX5_takeEvent_84, bX5_takeEvent_90, uX5_takeEvent_90, pvMk_t, pvMk_f, pvMk_n, pvRtG, pvRecv_r, pvUp_nl, pvUp_same, pvUp_ap, pvSt_ap, pvX_c, pvX_ms, pvX_mn, pvE_nil, pvEn_i, pvEn_r, pvEn_l, pvEn_0, pvEn_s, pvRt, pvRv, pvTh, pvKc, pvGo, pvTgt, Int.toNat_natCast, false_and, and_false, true_and, and_true, if_true, if_false, reduceIte, reduceCtorEq, forall_const, false_or, or_false, true_or, or_true, ne_eq, not_true_eq_false, not_false_eq_true, implies_true, false_implies, Nat.reduceAdd, Nat.reduceSub, Nat.reduceMul, Nat.reduceEqDiff, Nat.reduceLT, Nat.reduceLeDiff, Int.reduceAdd, Int.reduceSub, Int.reduceMul, Int.reduceNeg, Int.reduceToNat, Int.reduceLE, Int.reduceLT, Int.reduceEq, Int.reduceNe, and_self]
              (repeat' first | with_reducible apply And.intro | with_reducible intro _)
              all_goals first
                | omega
                | exact q9
            · have hnx := nx a d (by omega) (by omega)
              have hnr := nxr a d (by omega) (by omega)
              have hxr : ∀ x, x ∈ Qs → ixF Qs x = ((ixN Qs x : Nat) : Int) ∧ ixN Qs x < Qs.length := fun x hx => ⟨if_pos hx, (ixN_lt hx).1⟩
              simp only [pvSt1]
              simp only [C_X5_configurationAt, C_X5_positionBehind, C_X5_startOf, C_X5_costAt, C_X6_append, epos, n1, ecost, pvE_iconst, pvE_istore, pvS1, List.length_cons, List.length_nil, pvClr_i, pvClr_r, pvClr_l, pvClr_d, pvClr_f, pvClr_n, pvE_iload, pvLI_s, pvLd, pvE_icmp_ge, pvE_icmp_gt, pvE_aload_n0, pvLA_s, pvE_aload_n1, pvE_aload_n2, pvE_iload_n3, pvE_invokevirtual, pvC1_s, pvC2_s, pvAf_v, pvAf_x, pvPop, pvCs, pvCat, pvPush, aX5_takeEvent_67, pvSh_0, pvSh_1, pvSh_2, pvSh_3, pvSh_4, pvSh_5, pvSh_6, pvSh_7, pvSh_8, pvSh_9, pvSh_10, pvSh_11, pvSh_12, pvSh_13, pvSh_14, pvSh_15, pvSh_16, pvSh_17, pvSh_18, pvSh_19, pvSh_20, pvSh_21, pvSh_22, pvSh_23, pvSh_24, pvSh_25, pvSh_26, pvSh_27, pvSh_28, pvSh_29, pvSh_30, pvSh_31, pvSh_32, pvSh_33, pvSh_34, pvSh_35, pvSh_36, pvSh_37, pvSh_38, aX5_takeEvent_106, pvE_iadd, aX5_takeEvent_99, pvE_icmp_lt, aX5_takeEvent_110, pvE_icmp_ne, pvE_aload, aX5_takeEvent_118, pvE_pop_i, pvE_pop_r, pvE_ireturn, pvE_iinc, pvIc_s, pvE_goto, bX5_takeEvent_0, uX5_takeEvent_0, bX5_takeEvent_3, uX5_takeEvent_3, bX5_takeEvent_12, uX5_takeEvent_12, bX5_takeEvent_78, uX5_takeEvent_78, bX5_takeEvent_84, uX5_takeEvent_84, bX5_takeEvent_90, uX5_takeEvent_90, pvMk_t, pvMk_f, pvMk_n, pvRtG, pvRecv_r, pvUp_nl, pvUp_same, pvUp_ap, pvSt_ap, pvX_c, pvX_ms, pvX_mn, pvE_nil, pvEn_i, pvEn_r, pvEn_l, pvEn_0, pvEn_s, pvRt, pvRv, pvTh, pvKc, pvGo, pvTgt, Int.toNat_natCast, false_and, and_false, true_and, and_true, if_true, if_false, reduceIte, reduceCtorEq, forall_const, false_or, or_false, true_or, or_true, ne_eq, not_true_eq_false, not_false_eq_true, implies_true, false_implies, Nat.reduceAdd, Nat.reduceSub, Nat.reduceMul, Nat.reduceEqDiff, Nat.reduceLT, Nat.reduceLeDiff, Int.reduceAdd, Int.reduceSub, Int.reduceMul, Int.reduceNeg, Int.reduceToNat, Int.reduceLE, Int.reduceLT, Int.reduceEq, Int.reduceNe, and_self]
              by_cases eKk : 5 * a + d = K
              · rw [← eKk] at k2
                obtain ⟨g1, g2⟩ := hnx.mp k2
                have hm : stF1 A B c (a : Int) (d : Int) ∈ Qs := by
                  by_cases hm : stF1 A B c (a : Int) (d : Int) ∈ Qs
                  · exact hm
                  · rw [ixF_no hm] at g1; omega
                obtain ⟨y1, y2⟩ := hxr _ hm
                rw [← eKk, show (5 * a + d) / 5 = a by omega, show (5 * a + d) % 5 = d by omega] at h2
                rw [← y1] at h2
                (repeat' first | with_reducible apply And.intro | with_reducible intro _)
                all_goals first
                  | omega
                  | skip
                all_goals
                  refine ⟨A, B, Qs, ⟨hq, hA, hB, hok, by omega, by omega⟩, ?_⟩
                  (repeat' first | with_reducible apply And.intro | with_reducible intro _)
                  all_goals first
                    | omega
                    | (have hnr1 := hnr (by omega); omega)
                    | contradiction
                    | (exfalso; omega)
                    | skip
                  all_goals
                    refine h2 _ (by (repeat' first | assumption | exact frF_0 | (refine frF_u ?_ (by decide)) | (refine frF_s ?_ (by decide)) | (refine frF_l ?_ (by decide)))) (wv_ap hwv (by omega) (d := (d : Int)) (l := (a : Int)) (by omega) (by omega) ?_ ?_ (fun j => ?_) (fun j => ?_) (fun j => ?_)) ?_ (fun j hj => ?_) ?_ ?_
                    all_goals simp (disch := omega) only [pvUp_ap, true_and, if_neg, if_pos, if_true, hw4, Int.toNat_natCast, Nat.reduceEqDiff, false_and, if_false, reduceIte]
                    all_goals first
                      | exact ⟨rfl, rfl⟩
                      | rfl
                      | (simp; done)
              · have hno : ¬ nxP A B F i c (5 * a + d) := k3 _ (by omega)
                have q9 := ihd (md - 1) (by omega) (d + 1) (by omega) (by omega)
                rw [hnx] at hno
                (repeat' first | with_reducible apply And.intro | with_reducible intro _)
                all_goals first
                  | omega
                  | skip
                all_goals
                  refine ⟨A, B, Qs, ⟨hq, hA, hB, hok, by omega, by omega⟩, ?_⟩
                  by_cases hm : stF1 A B c (a : Int) (d : Int) ∈ Qs
                  · obtain ⟨y1, y2⟩ := hxr _ hm
                    (repeat' first | with_reducible apply And.intro | with_reducible intro _)
                    all_goals first
                      | omega
                      | (have hnr1 := hnr (by omega); omega)
                      | contradiction
                      | (exfalso; exact hno ⟨by omega, by assumption⟩)
                      | (exfalso; omega)
                      | exact q9
                  · have y1 := ixF_no hm
                    (repeat' first | with_reducible apply And.intro | with_reducible intro _)
                    all_goals first
                      | omega
                      | (have hnr1 := hnr (by omega); omega)
                      | contradiction
                      | (exfalso; omega)
                      | exact q9
        refine hc 20 _ _ _ fun _ _ => ?_
        simp only [pvSt1]
        simp only [pvE_iconst, pvE_istore, pvS1, List.length_cons, List.length_nil, pvClr_i, pvClr_r, pvClr_l, pvClr_d, pvClr_f, pvClr_n, pvE_iload, pvLI_s, pvLd, pvE_icmp_ge, pvE_icmp_gt, pvE_aload_n0, pvLA_s, pvE_aload_n1, pvE_aload_n2, pvE_iload_n3, pvE_invokevirtual, pvC1_s, pvC2_s, pvAf_v, pvAf_x, pvPop, pvCs, pvCat, pvPush, aX5_takeEvent_67, pvSh_0, pvSh_1, pvSh_2, pvSh_3, pvSh_4, pvSh_5, pvSh_6, pvSh_7, pvSh_8, pvSh_9, pvSh_10, pvSh_11, pvSh_12, pvSh_13, pvSh_14, pvSh_15, pvSh_16, pvSh_17, pvSh_18, pvSh_19, pvSh_20, pvSh_21, pvSh_22, pvSh_23, pvSh_24, pvSh_25, pvSh_26, pvSh_27, pvSh_28, pvSh_29, pvSh_30, pvSh_31, pvSh_32, pvSh_33, pvSh_34, pvSh_35, pvSh_36, pvSh_37, pvSh_38, aX5_takeEvent_106, pvE_iadd, aX5_takeEvent_99, pvE_icmp_lt, aX5_takeEvent_110, pvE_icmp_ne, pvE_aload, aX5_takeEvent_118, pvE_pop_i, pvE_pop_r, pvE_ireturn, pvE_iinc, pvIc_s, pvE_goto, bX5_takeEvent_0, uX5_takeEvent_0, bX5_takeEvent_3, uX5_takeEvent_3, bX5_takeEvent_12, uX5_takeEvent_12, bX5_takeEvent_78, uX5_takeEvent_78, bX5_takeEvent_84, uX5_takeEvent_84, bX5_takeEvent_90, uX5_takeEvent_90, pvMk_t, pvMk_f, pvMk_n, pvRtG, pvRecv_r, pvUp_nl, pvUp_same, pvUp_ap, pvSt_ap, pvX_c, pvX_ms, pvX_mn, pvE_nil, pvEn_i, pvEn_r, pvEn_l, pvEn_0, pvEn_s, pvRt, pvRv, pvTh, pvKc, pvGo, pvTgt, Int.toNat_natCast, false_and, and_false, true_and, and_true, if_true, if_false, reduceIte, reduceCtorEq, forall_const, false_or, or_false, true_or, or_true, ne_eq, not_true_eq_false, not_false_eq_true, implies_true, false_implies, Nat.reduceAdd, Nat.reduceSub, Nat.reduceMul, Nat.reduceEqDiff, Nat.reduceLT, Nat.reduceLeDiff, Int.reduceAdd, Int.reduceSub, Int.reduceMul, Int.reduceNeg, Int.reduceToNat, Int.reduceLE, Int.reduceLT, Int.reduceEq, Int.reduceNe, and_self]
        have q9 := inner (by omega) 5 0 (by omega) (by omega)
        (repeat' first | with_reducible apply And.intro | with_reducible intro _)
        all_goals first
          | omega
          | exact q9
    refine hc 20 _ _ _ fun _ _ => ?_
    simp only [pvSt1]
    simp only [pvE_iconst, pvE_istore, pvS1, List.length_cons, List.length_nil, pvClr_i, pvClr_r, pvClr_l, pvClr_d, pvClr_f, pvClr_n, pvE_iload, pvLI_s, pvLd, pvE_icmp_ge, pvE_icmp_gt, pvE_aload_n0, pvLA_s, pvE_aload_n1, pvE_aload_n2, pvE_iload_n3, pvE_invokevirtual, pvC1_s, pvC2_s, pvAf_v, pvAf_x, pvPop, pvCs, pvCat, pvPush, aX5_takeEvent_67, pvSh_0, pvSh_1, pvSh_2, pvSh_3, pvSh_4, pvSh_5, pvSh_6, pvSh_7, pvSh_8, pvSh_9, pvSh_10, pvSh_11, pvSh_12, pvSh_13, pvSh_14, pvSh_15, pvSh_16, pvSh_17, pvSh_18, pvSh_19, pvSh_20, pvSh_21, pvSh_22, pvSh_23, pvSh_24, pvSh_25, pvSh_26, pvSh_27, pvSh_28, pvSh_29, pvSh_30, pvSh_31, pvSh_32, pvSh_33, pvSh_34, pvSh_35, pvSh_36, pvSh_37, pvSh_38, aX5_takeEvent_106, pvE_iadd, aX5_takeEvent_99, pvE_icmp_lt, aX5_takeEvent_110, pvE_icmp_ne, pvE_aload, aX5_takeEvent_118, pvE_pop_i, pvE_pop_r, pvE_ireturn, pvE_iinc, pvIc_s, pvE_goto, bX5_takeEvent_0, uX5_takeEvent_0, bX5_takeEvent_3, uX5_takeEvent_3, bX5_takeEvent_12, uX5_takeEvent_12, bX5_takeEvent_78, uX5_takeEvent_78, bX5_takeEvent_84, uX5_takeEvent_84, bX5_takeEvent_90, uX5_takeEvent_90, pvMk_t, pvMk_f, pvMk_n, pvRtG, pvRecv_r, pvUp_nl, pvUp_same, pvUp_ap, pvSt_ap, pvX_c, pvX_ms, pvX_mn, pvE_nil, pvEn_i, pvEn_r, pvEn_l, pvEn_0, pvEn_s, pvRt, pvRv, pvTh, pvKc, pvGo, pvTgt, Int.toNat_natCast, false_and, and_false, true_and, and_true, if_true, if_false, reduceIte, reduceCtorEq, forall_const, false_or, or_false, true_or, or_true, ne_eq, not_true_eq_false, not_false_eq_true, implies_true, false_implies, Nat.reduceAdd, Nat.reduceSub, Nat.reduceMul, Nat.reduceEqDiff, Nat.reduceLT, Nat.reduceLeDiff, Int.reduceAdd, Int.reduceSub, Int.reduceMul, Int.reduceNeg, Int.reduceToNat, Int.reduceLE, Int.reduceLT, Int.reduceEq, Int.reduceNe, and_self]
    (repeat' first | with_reducible apply And.intro | with_reducible intro _)
    all_goals first
      | omega
      | exact outer 3 0 rfl (Nat.zero_le _)
  · exact h.elim
def C_X5_takeFirst : pvC
  | [.inr (.inr (.inl id)), .inr (.inr (.inl p)), .inr (.inr (.inl q)), .inr (.inr (.inl w))], z, Q => id = 28 ∧ ∃ (A B : Aut) (Q0 : List Int), (w = 20 ∧ quF z Q0 ∧ psS z p A ∧ psS z q B) ∧
      ∀ (z' : pvM) (Qs : List Int), quF z' Qs →
        ((¬ ∃ F, F ≤ 10 ∧ fdF A B F) → frF [28, 29, 30, 32] [] z z' → Q (.inl (some (vI 0))) z') ∧
        (∀ F, F ≤ 10 → fdF A B F → frF [20, 21, 22, 23, 28, 29, 30, 31, 32] [] z z' → WvF z'.1 → z'.1 20 4 = F → (∀ j : Nat, j < F → z'.1 21 j = ((nkF A B F j (wcF A B F j) % 5 : Nat) : Int) ∧ z'.1 22 j = ((nkF A B F j (wcF A B F j) / 5 : Nat) : Int)) → Q (.inl (some (vI 1))) z')
  | _, _, _ => False
def bX5_takeFirst : Nat → List (Instr × Nat)
  | 0 => [(.aload_n 0, 1), (.aload_n 1, 1), (.aload_n 2, 1), (.bipush 10, 2), (.invokevirtual 28, 3), (.istore 4, 2), (.iload 4, 2), (.iconst (-1), 1), (.if_icmp .ne 5, 3), (.iconst 0, 1), (.ireturn, 1)]
  | 18 => [(.aload_n 0, 1), (.aload_n 1, 1), (.aload_n 2, 1), (.iload 4, 2), (.invokevirtual 32, 3), (.aload_n 3, 1), (.invokevirtual 36, 3), (.iconst 0, 1), (.istore 5, 2), (.iconst 0, 1), (.istore 6, 2)]
  | 36 => [(.iload 6, 2), (.iload 4, 2), (.if_icmp .ge 22, 3), (.aload_n 0, 1), (.aload_n 1, 1), (.aload_n 2, 1), (.iload 5, 2), (.iload 6, 2), (.aload_n 3, 1), (.invokevirtual 41, 3), (.istore 5, 2), (.iinc 6 1, 3), (.goto (-23), 3)]
  | 62 => [(.iconst 1, 1), (.ireturn, 1)]
  | _ => []
def uX5_takeFirst : Nat → Option (List Bool)
  | 18 => some [true, true, true, true, true, false, false]
  | 36 => some [true, true, true, true, true, true, true]
  | _ => none
def aX5_takeFirst : pvCa
  | 28 => some (4, false, 5, 0, C_X5_shortest)
  | 32 => some (4, false, 5, 0, C_X5_findCosts)
  | 36 => some (1, false, 6, 0, C_X6_clear)
  | 41 => some (6, false, 5, 0, C_X5_takeEvent)
  | _ => none
theorem bX5_takeFirst_0 : bX5_takeFirst 0 = [(.aload_n 0, 1), (.aload_n 1, 1), (.aload_n 2, 1), (.bipush 10, 2), (.invokevirtual 28, 3), (.istore 4, 2), (.iload 4, 2), (.iconst (-1), 1), (.if_icmp .ne 5, 3), (.iconst 0, 1), (.ireturn, 1)] := rfl
theorem uX5_takeFirst_0 : uX5_takeFirst 0 = none := rfl
theorem bX5_takeFirst_18 : bX5_takeFirst 18 = [(.aload_n 0, 1), (.aload_n 1, 1), (.aload_n 2, 1), (.iload 4, 2), (.invokevirtual 32, 3), (.aload_n 3, 1), (.invokevirtual 36, 3), (.iconst 0, 1), (.istore 5, 2), (.iconst 0, 1), (.istore 6, 2)] := rfl
theorem uX5_takeFirst_18 : uX5_takeFirst 18 = some [true, true, true, true, true, false, false] := rfl
theorem bX5_takeFirst_36 : bX5_takeFirst 36 = [(.iload 6, 2), (.iload 4, 2), (.if_icmp .ge 22, 3), (.aload_n 0, 1), (.aload_n 1, 1), (.aload_n 2, 1), (.iload 5, 2), (.iload 6, 2), (.aload_n 3, 1), (.invokevirtual 41, 3), (.istore 5, 2), (.iinc 6 1, 3), (.goto (-23), 3)] := rfl
theorem uX5_takeFirst_36 : uX5_takeFirst 36 = some [true, true, true, true, true, true, true] := rfl
theorem bX5_takeFirst_62 : bX5_takeFirst 62 = [(.iconst 1, 1), (.ireturn, 1)] := rfl
theorem uX5_takeFirst_62 : uX5_takeFirst 62 = none := rfl
theorem aX5_takeFirst_28 : aX5_takeFirst 28 = some (4, false, 5, 0, C_X5_shortest) := rfl
theorem aX5_takeFirst_32 : aX5_takeFirst 32 = some (4, false, 5, 0, C_X5_findCosts) := rfl
theorem aX5_takeFirst_36 : aX5_takeFirst 36 = some (1, false, 6, 0, C_X6_clear) := rfl
theorem aX5_takeFirst_41 : aX5_takeFirst 41 = some (6, false, 5, 0, C_X5_takeEvent) := rfl
set_option maxRecDepth 100000 in
set_option maxHeartbeats 4000000 in
theorem okX5_takeFirst : pvOkM fX5 aX5_takeFirst kX5 eX5 (some .boolean) bX5_takeFirst uX5_takeFirst 7 C_X5_takeFirst := by
  intro Q SW hc as z h hS hz
  unfold C_X5_takeFirst at h
  split at h
  · rename_i id p q w
    obtain ⟨rfl, A, B, Q0, ⟨rfl, hq0, hA, hB⟩, h2⟩ := h
    have hid1 := hA.1
    have hid2 := hB.1
    have wA := hA.2.2.2.2
    have wB := hB.2.2.2.2
    refine ⟨Nat.le_of_ble_eq_true rfl, ?_⟩
    have loop : ∀ (F : Nat) (Qs : List Int), F ≤ 10 → fdF A B F → ∀ (m i : Nat) (z' : pvM), i + m = F → frF [20, 21, 22, 23, 28, 29, 30, 31, 32] [] z z' → quF z' Qs → saP A B z' Qs (F + 2) → (∀ c, c ∈ Qs ↔ ∃ n, n ≤ F ∧ rcK A B n c) → cqP A B z' Qs F → WvF z'.1 → z'.1 20 4 = i → (∀ j : Nat, j < i → z'.1 21 j = ((nkF A B F j (wcF A B F j) % 5 : Nat) : Int) ∧ z'.1 22 j = ((nkF A B F j (wcF A B F j) / 5 : Nat) : Int)) →
        SW 36 [some (vR 28), some (vR p), some (vR q), some (vR 20), some (vI (F : Int)), some (vI ((ixN Qs (wcF A B F i) : Nat) : Int)), some (vI (i : Int))] z' := by
      intro F Qs hF hfd m
      induction m using Nat.strongRecOn with
      | _ m ih =>
        intro i z' hi f1 hq1 hs ha hcq hwv hw4 ho
        refine hc 20 _ _ _ fun _ _ => ?_
        simp only [pvSt1]
        by_cases hx : F ≤ i
        · obtain rfl : i = F := by omega
          have q9 := (h2 z' Qs hq1).2 i hF hfd f1 hwv hw4 ho
          simp only [pvE_aload_n0, pvLA_s, pvLd, pvE_aload_n1, pvE_aload_n2, pvE_bipush, pvE_invokevirtual, pvC1_s, pvC2_s, pvAf_v, pvAf_x, pvPop, pvCs, pvCat, pvPush, aX5_takeFirst_28, pvSh_0, pvSh_1, pvSh_2, pvSh_3, pvSh_4, pvSh_5, pvSh_6, pvSh_7, pvSh_8, pvSh_9, pvSh_10, pvSh_11, pvSh_12, pvSh_13, pvSh_14, pvSh_15, pvSh_16, pvSh_17, pvSh_18, pvSh_19, pvSh_20, pvSh_21, pvSh_22, pvSh_23, pvSh_24, pvSh_25, pvSh_26, pvSh_27, pvSh_28, pvSh_29, pvSh_30, pvSh_31, pvSh_32, pvSh_33, pvSh_34, pvSh_35, pvSh_36, pvSh_37, pvSh_38, pvE_istore, pvS1, List.length_cons, List.length_nil, pvClr_i, pvClr_r, pvClr_l, pvClr_d, pvClr_f, pvClr_n, pvE_iload, pvLI_s, pvE_iconst, pvE_icmp_ne, pvE_ireturn, aX5_takeFirst_32, pvE_aload_n3, aX5_takeFirst_36, pvE_icmp_ge, aX5_takeFirst_41, pvE_iinc, pvIc_s, pvE_goto, bX5_takeFirst_0, uX5_takeFirst_0, bX5_takeFirst_18, uX5_takeFirst_18, bX5_takeFirst_36, uX5_takeFirst_36, bX5_takeFirst_62, uX5_takeFirst_62, pvMk_t, pvMk_f, pvMk_n, pvRtG, pvRecv_r, pvUp_nl, pvUp_same, pvUp_ap, pvSt_ap, pvX_c, pvX_ms, pvX_mn, pvE_nil, pvEn_i, pvEn_r, pvEn_l, pvEn_0, pvEn_s, pvRt, pvRv, pvTh, pvKc, pvGo, pvTgt, Int.toNat_natCast, false_and, and_false, true_and, and_true, if_true, if_false, reduceIte, reduceCtorEq, forall_const, false_or, or_false, true_or, or_true, ne_eq, not_true_eq_false, not_false_eq_true, implies_true, false_implies, Nat.reduceAdd, Nat.reduceSub, Nat.reduceMul, Nat.reduceEqDiff, Nat.reduceLT, Nat.reduceLeDiff, Int.reduceAdd, Int.reduceSub, Int.reduceMul, Int.reduceNeg, Int.reduceToNat, Int.reduceLE, Int.reduceLT, Int.reduceEq, Int.reduceNe, and_self]
          (repeat' first | with_reducible apply And.intro | with_reducible intro _)
          all_goals first
            | omega
            | exact q9
        · have hA' := psS_m hA f1 (by simp)
          have hB' := psS_m hB f1 (by simp)
          have hx1 := qu_len hq1.2.2.2.1 hq1.2.2.2.2
          obtain ⟨hl1, -⟩ := wc_ok wA wB hfd hF (i + 1) (by omega)
          have hx2 := (ixN_lt ((ha _).mpr ⟨i + 1, by omega, hl1.1⟩)).1
          simp only [C_X5_takeEvent, pvE_aload_n0, pvLA_s, pvLd, pvE_aload_n1, pvE_aload_n2, pvE_bipush, pvE_invokevirtual, pvC1_s, pvC2_s, pvAf_v, pvAf_x, pvPop, pvCs, pvCat, pvPush, aX5_takeFirst_28, pvSh_0, pvSh_1, pvSh_2, pvSh_3, pvSh_4, pvSh_5, pvSh_6, pvSh_7, pvSh_8, pvSh_9, pvSh_10, pvSh_11, pvSh_12, pvSh_13, pvSh_14, pvSh_15, pvSh_16, pvSh_17, pvSh_18, pvSh_19, pvSh_20, pvSh_21, pvSh_22, pvSh_23, pvSh_24, pvSh_25, pvSh_26, pvSh_27, pvSh_28, pvSh_29, pvSh_30, pvSh_31, pvSh_32, pvSh_33, pvSh_34, pvSh_35, pvSh_36, pvSh_37, pvSh_38, pvE_istore, pvS1, List.length_cons, List.length_nil, pvClr_i, pvClr_r, pvClr_l, pvClr_d, pvClr_f, pvClr_n, pvE_iload, pvLI_s, pvE_iconst, pvE_icmp_ne, pvE_ireturn, aX5_takeFirst_32, pvE_aload_n3, aX5_takeFirst_36, pvE_icmp_ge, aX5_takeFirst_41, pvE_iinc, pvIc_s, pvE_goto, bX5_takeFirst_0, uX5_takeFirst_0, bX5_takeFirst_18, uX5_takeFirst_18, bX5_takeFirst_36, uX5_takeFirst_36, bX5_takeFirst_62, uX5_takeFirst_62, pvMk_t, pvMk_f, pvMk_n, pvRtG, pvRecv_r, pvUp_nl, pvUp_same, pvUp_ap, pvSt_ap, pvX_c, pvX_ms, pvX_mn, pvE_nil, pvEn_i, pvEn_r, pvEn_l, pvEn_0, pvEn_s, pvRt, pvRv, pvTh, pvKc, pvGo, pvTgt, Int.toNat_natCast, false_and, and_false, true_and, and_true, if_true, if_false, reduceIte, reduceCtorEq, forall_const, false_or, or_false, true_or, or_true, ne_eq, not_true_eq_false, not_false_eq_true, implies_true, false_implies, Nat.reduceAdd, Nat.reduceSub, Nat.reduceMul, Nat.reduceEqDiff, Nat.reduceLT, Nat.reduceLeDiff, Int.reduceAdd, Int.reduceSub, Int.reduceMul, Int.reduceNeg, Int.reduceToNat, Int.reduceLE, Int.reduceLT, Int.reduceEq, Int.reduceNe, and_self]
          (repeat' first | with_reducible apply And.intro | with_reducible intro _)
          all_goals first
            | omega
            | skip
          all_goals
            refine ⟨A, B, Qs, F, ⟨hq1, hA', hB', hF, hfd, by omega, hs, ha, hcq, by simp, hwv, hw4⟩, fun z2 f2 wv2 e4 o1 o2 o3 => ?_⟩
            have q9 := ih (m - 1) (by omega) (i + 1) z2 (by omega) (frF_t f1 f2 (by decide) (by decide)) (by unfold quF; rw [f2.1 28 (by decide), f2.1 29 (by decide), f2.1 30 (by decide)]; exact hq1) (by unfold saP; rw [f2.1 32 (by decide)]; exact hs) ha (by unfold cqP; rw [f2.1 31 (by decide)]; exact hcq) wv2 (by rw [e4]; rfl) (fun j hj => by
              by_cases e : j = i
              · subst e; exact ⟨o2, o3⟩
              · rw [(o1 j (by omega)).1, (o1 j (by omega)).2]; exact ho j (by omega))
            first
              | exact q9
              | exact ⟨by omega, q9⟩
    have p18 : ∀ (F : Nat) (Qs : List Int) (z' : pvM), F ≤ 10 → fdF A B F → frF [28, 29, 30, 32] [] z z' → quF z' Qs → saP A B z' Qs (F + 2) → (∀ c, c ∈ Qs ↔ ∃ n, n ≤ F ∧ rcK A B n c) →
        SW 18 [some (vR 28), some (vR p), some (vR q), some (vR 20), some (vI (F : Int)), none, none] z' := by
      intro F Qs z' hF hfd f1 hq1 hs ha
      have hA' := psS_m hA f1 (by simp)
      have hB' := psS_m hB f1 (by simp)
      refine hc 20 _ _ _ fun _ _ => ?_
      simp only [pvSt1]
      simp only [C_X5_findCosts, C_X6_clear, pvE_aload_n0, pvLA_s, pvLd, pvE_aload_n1, pvE_aload_n2, pvE_bipush, pvE_invokevirtual, pvC1_s, pvC2_s, pvAf_v, pvAf_x, pvPop, pvCs, pvCat, pvPush, aX5_takeFirst_28, pvSh_0, pvSh_1, pvSh_2, pvSh_3, pvSh_4, pvSh_5, pvSh_6, pvSh_7, pvSh_8, pvSh_9, pvSh_10, pvSh_11, pvSh_12, pvSh_13, pvSh_14, pvSh_15, pvSh_16, pvSh_17, pvSh_18, pvSh_19, pvSh_20, pvSh_21, pvSh_22, pvSh_23, pvSh_24, pvSh_25, pvSh_26, pvSh_27, pvSh_28, pvSh_29, pvSh_30, pvSh_31, pvSh_32, pvSh_33, pvSh_34, pvSh_35, pvSh_36, pvSh_37, pvSh_38, pvE_istore, pvS1, List.length_cons, List.length_nil, pvClr_i, pvClr_r, pvClr_l, pvClr_d, pvClr_f, pvClr_n, pvE_iload, pvLI_s, pvE_iconst, pvE_icmp_ne, pvE_ireturn, aX5_takeFirst_32, pvE_aload_n3, aX5_takeFirst_36, pvE_icmp_ge, aX5_takeFirst_41, pvE_iinc, pvIc_s, pvE_goto, bX5_takeFirst_0, uX5_takeFirst_0, bX5_takeFirst_18, uX5_takeFirst_18, bX5_takeFirst_36, uX5_takeFirst_36, bX5_takeFirst_62, uX5_takeFirst_62, pvMk_t, pvMk_f, pvMk_n, pvRtG, pvRecv_r, pvUp_nl, pvUp_same, pvUp_ap, pvSt_ap, pvX_c, pvX_ms, pvX_mn, pvE_nil, pvEn_i, pvEn_r, pvEn_l, pvEn_0, pvEn_s, pvRt, pvRv, pvTh, pvKc, pvGo, pvTgt, Int.toNat_natCast, false_and, and_false, true_and, and_true, if_true, if_false, reduceIte, reduceCtorEq, forall_const, false_or, or_false, true_or, or_true, ne_eq, not_true_eq_false, not_false_eq_true, implies_true, false_implies, Nat.reduceAdd, Nat.reduceSub, Nat.reduceMul, Nat.reduceEqDiff, Nat.reduceLT, Nat.reduceLeDiff, Int.reduceAdd, Int.reduceSub, Int.reduceMul, Int.reduceNeg, Int.reduceToNat, Int.reduceLE, Int.reduceLT, Int.reduceEq, Int.reduceNe, and_self]
      (repeat' first | with_reducible apply And.intro | with_reducible intro _)
      all_goals first
        | omega
        | skip
      all_goals
        refine ⟨A, B, Qs, ⟨hq1, hA', hB', by omega, hs, ha⟩, fun z2 f2 cq2 => ?_⟩
        have e0 : ixN Qs (wcF A B F 0) = 0 := by
          have hm : c0F A B ∈ Qs := (ha _).mpr ⟨0, Nat.zero_le _, rfl⟩
          obtain ⟨x1, x2⟩ := ixN_lt hm
          obtain ⟨b1, b2⟩ := hs 1 (by omega) (by decide)
          have x3 := (b2 _ x1).mpr ⟨0, by decide, by rw [x2]; rfl⟩
          obtain ⟨n, n1, n2⟩ := (b2 0 (by omega)).mp (by omega)
          obtain rfl : n = 0 := by omega
          have x4 : ndF Qs 0 = c0F A B := n2
          exact ndF_inj hq1.2.2.2.1 x1 (by omega) (by rw [x4]; exact x2)
        have q9 := loop F Qs hF hfd F 0 (pvUp (pvUp z2.1 20 4 0) 20 3 215, z2.2) (by omega) (frF_u (frF_u (frF_t (frF_t frF_0 f1 (by decide) (by decide)) f2 (by decide) (by decide)) (by decide)) (by decide)) (by unfold quF; simp only [pvUp_nl, pvSt_ne, pvSt_eq, ne_eq, Nat.reduceEqDiff, not_false_eq_true]; rw [f2.1 28 (by decide), f2.1 29 (by decide), f2.1 30 (by decide)]; exact hq1) (by unfold saP; simp only [pvUp_nl, pvSt_ne, pvSt_eq, ne_eq, Nat.reduceEqDiff, not_false_eq_true]; rw [f2.1 32 (by decide)]; exact hs) ha (by unfold cqP; simp only [pvUp_nl, pvSt_ne, pvSt_eq, ne_eq, Nat.reduceEqDiff, not_false_eq_true]; exact cq2) (wv_0 (by simp [pvUp_ap]) (by simp [pvUp_ap])) (by simp [pvUp_ap]) (fun j hj => absurd hj (Nat.not_lt_zero _))
        rw [e0] at q9
        (repeat' first | with_reducible apply And.intro | with_reducible intro _)
        all_goals first
          | omega
          | exact q9
    refine hc 20 _ _ _ fun _ _ => ?_
    simp only [pvSt1]
    simp only [C_X5_shortest, pvE_aload_n0, pvLA_s, pvLd, pvE_aload_n1, pvE_aload_n2, pvE_bipush, pvE_invokevirtual, pvC1_s, pvC2_s, pvAf_v, pvAf_x, pvPop, pvCs, pvCat, pvPush, aX5_takeFirst_28, pvSh_0, pvSh_1, pvSh_2, pvSh_3, pvSh_4, pvSh_5, pvSh_6, pvSh_7, pvSh_8, pvSh_9, pvSh_10, pvSh_11, pvSh_12, pvSh_13, pvSh_14, pvSh_15, pvSh_16, pvSh_17, pvSh_18, pvSh_19, pvSh_20, pvSh_21, pvSh_22, pvSh_23, pvSh_24, pvSh_25, pvSh_26, pvSh_27, pvSh_28, pvSh_29, pvSh_30, pvSh_31, pvSh_32, pvSh_33, pvSh_34, pvSh_35, pvSh_36, pvSh_37, pvSh_38, pvE_istore, pvS1, List.length_cons, List.length_nil, pvClr_i, pvClr_r, pvClr_l, pvClr_d, pvClr_f, pvClr_n, pvE_iload, pvLI_s, pvE_iconst, pvE_icmp_ne, pvE_ireturn, aX5_takeFirst_32, pvE_aload_n3, aX5_takeFirst_36, pvE_icmp_ge, aX5_takeFirst_41, pvE_iinc, pvIc_s, pvE_goto, bX5_takeFirst_0, uX5_takeFirst_0, bX5_takeFirst_18, uX5_takeFirst_18, bX5_takeFirst_36, uX5_takeFirst_36, bX5_takeFirst_62, uX5_takeFirst_62, pvMk_t, pvMk_f, pvMk_n, pvRtG, pvRecv_r, pvUp_nl, pvUp_same, pvUp_ap, pvSt_ap, pvX_c, pvX_ms, pvX_mn, pvE_nil, pvEn_i, pvEn_r, pvEn_l, pvEn_0, pvEn_s, pvRt, pvRv, pvTh, pvKc, pvGo, pvTgt, Int.toNat_natCast, false_and, and_false, true_and, and_true, if_true, if_false, reduceIte, reduceCtorEq, forall_const, false_or, or_false, true_or, or_true, ne_eq, not_true_eq_false, not_false_eq_true, implies_true, false_implies, Nat.reduceAdd, Nat.reduceSub, Nat.reduceMul, Nat.reduceEqDiff, Nat.reduceLT, Nat.reduceLeDiff, Int.reduceAdd, Int.reduceSub, Int.reduceMul, Int.reduceNeg, Int.reduceToNat, Int.reduceLE, Int.reduceLT, Int.reduceEq, Int.reduceNe, and_self]
    (repeat' first | with_reducible apply And.intro | with_reducible intro _)
    all_goals first
      | omega
      | skip
    all_goals
      refine ⟨A, B, Q0, ⟨hq0, hA, hB⟩, fun z1 Qs f1 q1 => ⟨fun hno => ?_, fun F hF hF5 hF10 ha hs => ?_⟩⟩
      · have q9 := (h2 z1 Qs q1).1 (fun ⟨F, hF, hfd⟩ => by
          obtain ⟨c, c1, c2⟩ := hfd.1
          exact hno F hF c c1 c2) f1
        (repeat' first | with_reducible apply And.intro | with_reducible intro _)
        all_goals first
          | omega
          | contradiction
          | exact q9
      · have q9 := p18 F Qs z1 hF10 hF f1 q1 hs ha
        (repeat' first | with_reducible apply And.intro | with_reducible intro _)
        all_goals first
          | omega
          | contradiction
          | exact q9
  · exact h.elim

