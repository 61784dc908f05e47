/-! reached sets, and whether a word is one that is searched for -/
theorem pvA_big {t : Nat} (h : 64 ≤ t) : pvAn t = pvAI t := by
  unfold pvAn pvAI
  rw [pvSh_big h]
  rfl
def C_L_after (lim : Nat → Prop) (sc : Nat × (Nat → Int)) : pvC
  | [.inr (.inr (.inl t)), .inl ini, .inr (.inr (.inl dl)), .inr (.inr (.inl lt)), .inl e], z, Q => ∃ A : Aut, (trP lim z t A ∧ ini = A.2.1 ∧ ∃ n, wrP lim z dl lt n ∧ 0 ≤ e ∧ e ≤ n) ∧ Q (.inl (some (vI (afK A (z.1 dl) (z.1 lt) e.toNat)))) z
  | _, _, _ => False
def bL_after : Nat → List (Instr × Nat)
  | 0 => [(.iload_n 1, 1), (.istore 5, 2), (.iconst 0, 1), (.istore 6, 2)]
  | 6 => [(.iload 6, 2), (.iload 4, 2), (.if_icmp .ge 87, 3), (.iconst 0, 1), (.istore 7, 2), (.iconst 0, 1), (.istore 8, 2)]
  | 19 => [(.iload 8, 2), (.aload_n 0, 1), (.arraylength, 1), (.bipush 10, 2), (.idiv, 1), (.if_icmp .ge 61, 3), (.iload 5, 2), (.aload_n 0, 1), (.bipush 10, 2), (.iload 8, 2), (.imul, 1), (.iaload, 1), (.ishr, 1), (.iconst 1, 1), (.iand, 1), (.iconst 1, 1), (.if_icmp .ne 39, 3), (.aload_n 0, 1), (.iload 8, 2), (.aload_n 0, 1), (.bipush 10, 2), (.iload 8, 2), (.imul, 1), (.iaload, 1), (.aload_n 2, 1), (.aload_n 3, 1), (.iload 6, 2), (.invokestatic 98, 3), (.ifCond .eq 19, 3), (.iload 7, 2), (.iconst 1, 1), (.aload_n 0, 1), (.bipush 10, 2), (.iload 8, 2), (.imul, 1), (.iconst 2, 1), (.iadd, 1), (.iaload, 1), (.ishl, 1), (.ior, 1), (.istore 7, 2)]
  | 81 => [(.iinc 8 1, 3), (.goto (-65), 3)]
  | 87 => [(.iload 7, 2), (.istore 5, 2), (.iinc 6 1, 3), (.goto (-88), 3)]
  | 97 => [(.iload 5, 2), (.ireturn, 1)]
  | _ => []
def uL_after : Nat → Option (List Bool)
  | 6 => some [true, false, true, true, true, true, true, false, false]
  | 19 => some [true, false, true, true, true, true, true, true, true]
  | _ => none
def aL_after (lim : Nat → Prop) (sc : Nat × (Nat → Int)) : pvCa
  | 98 => some (6, true, 0, 0, C_L_goes lim sc)
  | _ => none
theorem bL_after_0 : bL_after 0 = [(.iload_n 1, 1), (.istore 5, 2), (.iconst 0, 1), (.istore 6, 2)] := rfl
theorem uL_after_0 : uL_after 0 = none := rfl
theorem bL_after_6 : bL_after 6 = [(.iload 6, 2), (.iload 4, 2), (.if_icmp .ge 87, 3), (.iconst 0, 1), (.istore 7, 2), (.iconst 0, 1), (.istore 8, 2)] := rfl
theorem uL_after_6 : uL_after 6 = some [true, false, true, true, true, true, true, false, false] := rfl
theorem bL_after_19 : bL_after 19 = [(.iload 8, 2), (.aload_n 0, 1), (.arraylength, 1), (.bipush 10, 2), (.idiv, 1), (.if_icmp .ge 61, 3), (.iload 5, 2), (.aload_n 0, 1), (.bipush 10, 2), (.iload 8, 2), (.imul, 1), (.iaload, 1), (.ishr, 1), (.iconst 1, 1), (.iand, 1), (.iconst 1, 1), (.if_icmp .ne 39, 3), (.aload_n 0, 1), (.iload 8, 2), (.aload_n 0, 1), (.bipush 10, 2), (.iload 8, 2), (.imul, 1), (.iaload, 1), (.aload_n 2, 1), (.aload_n 3, 1), (.iload 6, 2), (.invokestatic 98, 3), (.ifCond .eq 19, 3), (.iload 7, 2), (.iconst 1, 1), (.aload_n 0, 1), (.bipush 10, 2), (.iload 8, 2), (.imul, 1), (.iconst 2, 1), (.iadd, 1), (.iaload, 1), (.ishl, 1), (.ior, 1), (.istore 7, 2)] := rfl
theorem uL_after_19 : uL_after 19 = some [true, false, true, true, true, true, true, true, true] := rfl
theorem bL_after_81 : bL_after 81 = [(.iinc 8 1, 3), (.goto (-65), 3)] := rfl
theorem uL_after_81 : uL_after 81 = none := rfl
theorem bL_after_87 : bL_after 87 = [(.iload 7, 2), (.istore 5, 2), (.iinc 6 1, 3), (.goto (-88), 3)] := rfl
theorem uL_after_87 : uL_after 87 = none := rfl
theorem bL_after_97 : bL_after 97 = [(.iload 5, 2), (.ireturn, 1)] := rfl
theorem uL_after_97 : uL_after 97 = none := rfl
theorem aL_after_98 {lim : Nat → Prop} {sc : Nat × (Nat → Int)} : aL_after lim sc 98 = some (6, true, 0, 0, C_L_goes lim sc) := rfl
def mL_after : Room := { frames := 3, cells := 1, slots := 6, locals := 72 }
set_option maxRecDepth 100000 in
set_option maxHeartbeats 4000000 in
theorem okL_after (lim : Nat → Prop) (sc : Nat × (Nat → Int)) : pvOkG lim sc fL (aL_after lim sc) kL 1 0 (some .int) bL_after uL_after 9 (C_L_after lim sc) := by
  intro Q SW hc as z h hS hz
  unfold C_L_after at h
  split at h
  · rename_i t ini dl lt e
    obtain ⟨A, ⟨htr, rfl, n, hwr, he⟩, ho⟩ := h
    obtain ⟨⟨t1, t2, t3, t4⟩, hwA, htm⟩ := id htr
    obtain ⟨⟨l1, l2, l3, l4, l5, l6⟩, hwd⟩ := id hwr
    have hn1 := hwA.1
    have hn2 := hwd.1
    have hlen := pvA_big t3
    have inner : ∀ (j : Nat), (j : Int) < e →
        (SW 6 [some (vR t), none, some (vR dl), some (vR lt), some (vI e), some (vI (afK A (z.1 dl) (z.1 lt) (j + 1))), some (vI ((j : Int) + 1)), none, none] [] z 0) →
        ∀ (m k : Nat), (k : Int) + m = A.1 → SW 19 [some (vR t), none, some (vR dl), some (vR lt), some (vI e), some (vI (afK A (z.1 dl) (z.1 lt) j)), some (vI (j : Int)), some (vI (sbK A.2.2.2 (afK A (z.1 dl) (z.1 lt) j) (z.1 lt j) (psF (vaF (z.1 dl) (z.1 lt) j) (z.1 dl j)) k)), some (vI (k : Int))] [] z 0 := by
      intro j hj hnext m
      have hset := afK_r hwA (z.1 dl) (z.1 lt) j
      generalize hS0 : afK A (z.1 dl) (z.1 lt) j = set at hset
      generalize hv : psF (vaF (z.1 dl) (z.1 lt) j) (z.1 dl j) = v
      have hr := fun k (hk : k ≤ A.1.toNat) => sbK_r (T := A.2.2.2) (n := A.1.toNat) (fun t ht => (hwA.2.2.2 t (by omega)).2.2.1) set (z.1 lt j) v k hk
      induction m with
      | zero =>
        intro k hk
        obtain rfl : k = A.1.toNat := by omega
        have hrk := hr A.1.toNat (Nat.le_refl _)
        have e9 : afK A (z.1 dl) (z.1 lt) (j + 1) = sbK A.2.2.2 set (z.1 lt j) v A.1.toNat := by
          simp only [afK, sbF, hS0, hv]
        rw [e9] at hnext
        refine hc 20 _ _ _ _ _ fun _ _ _ => ?_
        clear hc hS hz
        simp only [pvStG]
        simp only [C_L_goes, pvE_iload_n1, pvLI_s, pvLd, pvE_istore, pvS1, List.length_cons, List.length_nil, pvClr_i, pvClr_r, pvClr_l, pvClr_d, pvClr_f, pvClr_n, pvE_iconst, pvE_iload, pvE_icmp_ge, pvE_aload_n0, pvLA_s, pvE_arraylength, pvE_bipush, pvE_idiv, pvE_imul, pvE_iaload, pvE_ishr, pvE_iand, pvE_icmp_ne, pvE_aload_n2, pvE_aload_n3, pvE_invokestatic (Ex := fun _ => none) (h0 := rfl), pvC1_s, pvC2_s, pvAf_v, pvAf_x, pvPop, pvCs, pvCat, pvPush, aL_after_98, pvE_if_eq, pvE_iadd, pvE_ishl, pvE_ior, pvE_iinc, pvIc_s, pvE_goto, pvE_ireturn, bL_after_0, uL_after_0, bL_after_6, uL_after_6, bL_after_19, uL_after_19, bL_after_81, uL_after_81, bL_after_87, uL_after_87, bL_after_97, uL_after_97, pvMk_t, pvMk_f, pvMk_n, pvRtG, pvRecv_r, pvUp_nl, pvUp_same, pvUp_ap, pvSt_ap, pvX_c, pvX_ms, pvX_mn, pvE_nil, pvEn_i, pvEn_r, pvEn_l, pvEn_0, pvEn_s, pvRt, pvRv, pvTh, pvKc, pvGo, pvTgt, Int.toNat_natCast, false_and, and_false, true_and, and_true, if_true, if_false, reduceIte, reduceCtorEq, forall_const, false_or, or_false, true_or, or_true, ne_eq, not_true_eq_false, not_false_eq_true, implies_true, false_implies, Nat.reduceAdd, Nat.reduceSub, Nat.reduceMul, Nat.reduceEqDiff, Nat.reduceLT, Nat.reduceLeDiff, Int.reduceAdd, Int.reduceSub, Int.reduceMul, Int.reduceNeg, Int.reduceToNat, Int.reduceLE, Int.reduceLT, Int.reduceEq, Int.reduceNe, and_self]
        (repeat' (first | with_reducible apply And.intro | intro _))
        all_goals first
          | omega
          | assumption
          | grind
      | succ m ih =>
        intro k hk
        have hrk := hr k (by omega)
        have hT := hwA.2.2.2 k (by omega)
        obtain ⟨-, hrow⟩ := htm k (by omega)
        have hx0 : z.1 t (10 * (k : Int)).toNat = A.2.2.2 k 0 := by
          rw [hrow 0 (by decide)]
          exact congrArg (z.1 t) (by omega)
        have hx2 : z.1 t (10 * (k : Int) + 2).toNat = A.2.2.2 k 2 := by
          rw [hrow 2 (by decide)]
          exact congrArg (z.1 t) (by omega)
        obtain ⟨hT0, hT1, hT2, -, -⟩ := hT
        have q9 := ih (k + 1) (by omega)
        simp only [sbK] at q9
        have hgo : ∃ A', (trP lim z t A' ∧ (0 ≤ (k : Int) ∧ (k : Int) < A'.1) ∧ ∃ n, wrP lim z dl lt n ∧ 0 ≤ (j : Int) ∧ (j : Int) < n) := ⟨A, htr, ⟨by omega, by omega⟩, n, hwr, by omega, by omega⟩
        refine hc 20 _ _ _ _ _ fun _ _ _ => ?_
        clear hc hS hz
        simp only [pvStG]
        simp only [C_L_goes, pvE_iload_n1, pvLI_s, pvLd, pvE_istore, pvS1, List.length_cons, List.length_nil, pvClr_i, pvClr_r, pvClr_l, pvClr_d, pvClr_f, pvClr_n, pvE_iconst, pvE_iload, pvE_icmp_ge, pvE_aload_n0, pvLA_s, pvE_arraylength, pvE_bipush, pvE_idiv, pvE_imul, pvE_iaload, pvE_ishr, pvE_iand, pvE_icmp_ne, pvE_aload_n2, pvE_aload_n3, pvE_invokestatic (Ex := fun _ => none) (h0 := rfl), pvC1_s, pvC2_s, pvAf_v, pvAf_x, pvPop, pvCs, pvCat, pvPush, aL_after_98, pvE_if_eq, pvE_iadd, pvE_ishl, pvE_ior, pvE_iinc, pvIc_s, pvE_goto, pvE_ireturn, bL_after_0, uL_after_0, bL_after_6, uL_after_6, bL_after_19, uL_after_19, bL_after_81, uL_after_81, bL_after_87, uL_after_87, bL_after_97, uL_after_97, pvMk_t, pvMk_f, pvMk_n, pvRtG, pvRecv_r, pvUp_nl, pvUp_same, pvUp_ap, pvSt_ap, pvX_c, pvX_ms, pvX_mn, pvE_nil, pvEn_i, pvEn_r, pvEn_l, pvEn_0, pvEn_s, pvRt, pvRv, pvTh, pvKc, pvGo, pvTgt, Int.toNat_natCast, false_and, and_false, true_and, and_true, if_true, if_false, reduceIte, reduceCtorEq, forall_const, false_or, or_false, true_or, or_true, ne_eq, not_true_eq_false, not_false_eq_true, implies_true, false_implies, Nat.reduceAdd, Nat.reduceSub, Nat.reduceMul, Nat.reduceEqDiff, Nat.reduceLT, Nat.reduceLeDiff, Int.reduceAdd, Int.reduceSub, Int.reduceMul, Int.reduceNeg, Int.reduceToNat, Int.reduceLE, Int.reduceLT, Int.reduceEq, Int.reduceNe, and_self]
        rw [hx0, hx2]
        have hb := bt_eq (s := set) (q := A.2.2.2 k 0) ⟨by omega, by omega, by omega, by omega⟩
        rw [hb]
        have hor := or15 (x := sbK A.2.2.2 set (z.1 lt j) v k) (r := A.2.2.2 k 2) hrk hT2
        by_cases hbt : btF set (A.2.2.2 k 0) = true
        · rw [if_pos hbt]
          by_cases hall : A.2.2.2 k 1 = z.1 lt j ∧ blF (A.2.2.2 k) v < 0
          · rw [if_pos ⟨hbt, hall⟩] at q9
            (repeat' first | with_reducible apply And.intro | with_reducible intro _)
            all_goals first
              | omega
              | assumption
              | exact q9
              | (refine ⟨A, ⟨htr, ⟨by omega, by omega⟩, n, hwr, by omega, by omega⟩, ?_, ?_⟩ <;> intro hyp <;> simp only [Int.toNat_natCast, hv] at hyp ⊢ <;> first | (exfalso; exact hyp ⟨trivial, hall⟩) | ((repeat' first | with_reducible apply And.intro | with_reducible intro _); all_goals first | omega | assumption | exact q9 | grind))
              | grind
          · rw [if_neg (fun hh => hall hh.2)] at q9
            (repeat' first | with_reducible apply And.intro | with_reducible intro _)
            all_goals first
              | omega
              | assumption
              | exact q9
              | (refine ⟨A, ⟨htr, ⟨by omega, by omega⟩, n, hwr, by omega, by omega⟩, ?_, ?_⟩ <;> intro hyp <;> simp only [Int.toNat_natCast, hv] at hyp ⊢ <;> first | (exfalso; exact hall hyp.2) | ((repeat' first | with_reducible apply And.intro | with_reducible intro _); all_goals first | omega | assumption | exact q9 | grind))
              | grind
        · rw [if_neg hbt]
          rw [if_neg (fun hh => hbt hh.1)] at q9
          (repeat' first | with_reducible apply And.intro | with_reducible intro _)
          all_goals first
            | omega
            | assumption
            | exact q9
            | grind
    have outer : ∀ (m j : Nat), (j : Int) + m = e → SW 6 [some (vR t), none, some (vR dl), some (vR lt), some (vI e), some (vI (afK A (z.1 dl) (z.1 lt) j)), some (vI (j : Int)), none, none] [] z 0 := by
      intro m
      induction m with
      | zero =>
        intro j hj
        obtain rfl : j = e.toNat := by omega
        have hset := afK_r hwA (z.1 dl) (z.1 lt) e.toNat
        refine hc 20 _ _ _ _ _ fun _ _ _ => ?_
        clear hc hS hz inner
        simp only [pvStG]
        simp only [pvE_iload_n1, pvLI_s, pvLd, pvE_istore, pvS1, List.length_cons, List.length_nil, pvClr_i, pvClr_r, pvClr_l, pvClr_d, pvClr_f, pvClr_n, pvE_iconst, pvE_iload, pvE_icmp_ge, pvE_aload_n0, pvLA_s, pvE_arraylength, pvE_bipush, pvE_idiv, pvE_imul, pvE_iaload, pvE_ishr, pvE_iand, pvE_icmp_ne, pvE_aload_n2, pvE_aload_n3, pvE_invokestatic (Ex := fun _ => none) (h0 := rfl), pvC1_s, pvC2_s, pvAf_v, pvAf_x, pvPop, pvCs, pvCat, pvPush, aL_after_98, pvE_if_eq, pvE_iadd, pvE_ishl, pvE_ior, pvE_iinc, pvIc_s, pvE_goto, pvE_ireturn, bL_after_0, uL_after_0, bL_after_6, uL_after_6, bL_after_19, uL_after_19, bL_after_81, uL_after_81, bL_after_87, uL_after_87, bL_after_97, uL_after_97, pvMk_t, pvMk_f, pvMk_n, pvRtG, pvRecv_r, pvUp_nl, pvUp_same, pvUp_ap, pvSt_ap, pvX_c, pvX_ms, pvX_mn, pvE_nil, pvEn_i, pvEn_r, pvEn_l, pvEn_0, pvEn_s, pvRt, pvRv, pvTh, pvKc, pvGo, pvTgt, Int.toNat_natCast, false_and, and_false, true_and, and_true, if_true, if_false, reduceIte, reduceCtorEq, forall_const, false_or, or_false, true_or, or_true, ne_eq, not_true_eq_false, not_false_eq_true, implies_true, false_implies, Nat.reduceAdd, Nat.reduceSub, Nat.reduceMul, Nat.reduceEqDiff, Nat.reduceLT, Nat.reduceLeDiff, Int.reduceAdd, Int.reduceSub, Int.reduceMul, Int.reduceNeg, Int.reduceToNat, Int.reduceLE, Int.reduceLT, Int.reduceEq, Int.reduceNe, and_self]
        (repeat' (first | with_reducible apply And.intro | intro _))
        all_goals first
          | omega
          | assumption
          | grind
      | succ m ih =>
        intro j hj
        have q := inner j (by omega) (ih (j + 1) (by omega)) A.1.toNat 0 (by omega)
        have hset := afK_r hwA (z.1 dl) (z.1 lt) j
        refine hc 20 _ _ _ _ _ fun _ _ _ => ?_
        clear hc hS hz inner ih
        simp only [pvStG]
        simp only [pvE_iload_n1, pvLI_s, pvLd, pvE_istore, pvS1, List.length_cons, List.length_nil, pvClr_i, pvClr_r, pvClr_l, pvClr_d, pvClr_f, pvClr_n, pvE_iconst, pvE_iload, pvE_icmp_ge, pvE_aload_n0, pvLA_s, pvE_arraylength, pvE_bipush, pvE_idiv, pvE_imul, pvE_iaload, pvE_ishr, pvE_iand, pvE_icmp_ne, pvE_aload_n2, pvE_aload_n3, pvE_invokestatic (Ex := fun _ => none) (h0 := rfl), pvC1_s, pvC2_s, pvAf_v, pvAf_x, pvPop, pvCs, pvCat, pvPush, aL_after_98, pvE_if_eq, pvE_iadd, pvE_ishl, pvE_ior, pvE_iinc, pvIc_s, pvE_goto, pvE_ireturn, bL_after_0, uL_after_0, bL_after_6, uL_after_6, bL_after_19, uL_after_19, bL_after_81, uL_after_81, bL_after_87, uL_after_87, bL_after_97, uL_after_97, pvMk_t, pvMk_f, pvMk_n, pvRtG, pvRecv_r, pvUp_nl, pvUp_same, pvUp_ap, pvSt_ap, pvX_c, pvX_ms, pvX_mn, pvE_nil, pvEn_i, pvEn_r, pvEn_l, pvEn_0, pvEn_s, pvRt, pvRv, pvTh, pvKc, pvGo, pvTgt, Int.toNat_natCast, false_and, and_false, true_and, and_true, if_true, if_false, reduceIte, reduceCtorEq, forall_const, false_or, or_false, true_or, or_true, ne_eq, not_true_eq_false, not_false_eq_true, implies_true, false_implies, Nat.reduceAdd, Nat.reduceSub, Nat.reduceMul, Nat.reduceEqDiff, Nat.reduceLT, Nat.reduceLeDiff, Int.reduceAdd, Int.reduceSub, Int.reduceMul, Int.reduceNeg, Int.reduceToNat, Int.reduceLE, Int.reduceLT, Int.reduceEq, Int.reduceNe, and_self]
        (repeat' (first | with_reducible apply And.intro | intro _))
        all_goals first
          | omega
          | assumption
          | exact q
          | grind
    refine ⟨Nat.le_of_ble_eq_true rfl, hc 20 _ _ _ _ _ fun _ _ _ => ?_⟩
    have q := outer e.toNat 0 (by omega)
    have hset := hwA.2.1
    clear hc hS hz inner outer
    simp only [pvStG]
    simp only [pvE_iload_n1, pvLI_s, pvLd, pvE_istore, pvS1, List.length_cons, List.length_nil, pvClr_i, pvClr_r, pvClr_l, pvClr_d, pvClr_f, pvClr_n, pvE_iconst, pvE_iload, pvE_icmp_ge, pvE_aload_n0, pvLA_s, pvE_arraylength, pvE_bipush, pvE_idiv, pvE_imul, pvE_iaload, pvE_ishr, pvE_iand, pvE_icmp_ne, pvE_aload_n2, pvE_aload_n3, pvE_invokestatic (Ex := fun _ => none) (h0 := rfl), pvC1_s, pvC2_s, pvAf_v, pvAf_x, pvPop, pvCs, pvCat, pvPush, aL_after_98, pvE_if_eq, pvE_iadd, pvE_ishl, pvE_ior, pvE_iinc, pvIc_s, pvE_goto, pvE_ireturn, bL_after_0, uL_after_0, bL_after_6, uL_after_6, bL_after_19, uL_after_19, bL_after_81, uL_after_81, bL_after_87, uL_after_87, bL_after_97, uL_after_97, pvMk_t, pvMk_f, pvMk_n, pvRtG, pvRecv_r, pvUp_nl, pvUp_same, pvUp_ap, pvSt_ap, pvX_c, pvX_ms, pvX_mn, pvE_nil, pvEn_i, pvEn_r, pvEn_l, pvEn_0, pvEn_s, pvRt, pvRv, pvTh, pvKc, pvGo, pvTgt, Int.toNat_natCast, false_and, and_false, true_and, and_true, if_true, if_false, reduceIte, reduceCtorEq, forall_const, false_or, or_false, true_or, or_true, ne_eq, not_true_eq_false, not_false_eq_true, implies_true, false_implies, Nat.reduceAdd, Nat.reduceSub, Nat.reduceMul, Nat.reduceEqDiff, Nat.reduceLT, Nat.reduceLeDiff, Int.reduceAdd, Int.reduceSub, Int.reduceMul, Int.reduceNeg, Int.reduceToNat, Int.reduceLE, Int.reduceLT, Int.reduceEq, Int.reduceNe, and_self]
    (repeat' (first | with_reducible apply And.intro | intro _))
    all_goals first
      | omega
      | assumption
      | exact q
      | grind
  · exact h.elim
/-- a word is one that is searched for: accepted by the one, and, of a difference, not by the other -/
def isP (A B : Aut) (df : Int) (d l : Nat → Int) (e : Nat) : Prop := pvAnd (afK A d l e) A.2.2.1 ≠ 0 ∧ (df = 0 ∨ pvAnd (afK B d l e) B.2.2.1 = 0)
def C_L_isOne (lim : Nat → Prop) (sc : Nat × (Nat → Int)) : pvC
  | [.inr (.inr (.inl t)), .inl ini, .inl fin, .inr (.inr (.inl u)), .inl ini2, .inl fin2, .inl df, .inr (.inr (.inl dl)), .inr (.inr (.inl lt)), .inl e], z, Q => ∃ A B : Aut, (trP lim z t A ∧ (ini = A.2.1 ∧ fin = A.2.2.1) ∧ trP lim z u B ∧ (ini2 = B.2.1 ∧ fin2 = B.2.2.1) ∧ (df = 0 ∨ df = 1) ∧ ∃ n, wrP lim z dl lt n ∧ 0 ≤ e ∧ e ≤ n) ∧
      (isP A B df (z.1 dl) (z.1 lt) e.toNat → Q (.inl (some (vI 1))) z) ∧ (¬ isP A B df (z.1 dl) (z.1 lt) e.toNat → Q (.inl (some (vI 0))) z)
  | _, _, _ => False
def bL_isOne : Nat → List (Instr × Nat)
  | 0 => [(.aload_n 0, 1), (.iload_n 1, 1), (.aload 7, 2), (.aload 8, 2), (.iload 9, 2), (.invokestatic 119, 3), (.iload_n 2, 1), (.iand, 1), (.ifCond .ne 5, 3), (.iconst 0, 1), (.ireturn, 1)]
  | 18 => [(.iload 6, 2), (.ifCond .eq 21, 3), (.aload_n 3, 1), (.iload 4, 2), (.aload 7, 2), (.aload 8, 2), (.iload 9, 2), (.invokestatic 119, 3), (.iload 5, 2), (.iand, 1), (.ifCond .ne 7, 3)]
  | 41 => [(.iconst 1, 1), (.goto 4, 3)]
  | 45 => [(.iconst 0, 1)]
  | 46 => [(.ireturn, 1)]
  | _ => []
def uL_isOne : Nat → Option (List Bool)
  | _ => none
def aL_isOne (lim : Nat → Prop) (sc : Nat × (Nat → Int)) : pvCa
  | 119 => some (5, true, 0, 0, C_L_after lim sc)
  | _ => none
theorem bL_isOne_0 : bL_isOne 0 = [(.aload_n 0, 1), (.iload_n 1, 1), (.aload 7, 2), (.aload 8, 2), (.iload 9, 2), (.invokestatic 119, 3), (.iload_n 2, 1), (.iand, 1), (.ifCond .ne 5, 3), (.iconst 0, 1), (.ireturn, 1)] := rfl
theorem uL_isOne_0 : uL_isOne 0 = none := rfl
theorem bL_isOne_18 : bL_isOne 18 = [(.iload 6, 2), (.ifCond .eq 21, 3), (.aload_n 3, 1), (.iload 4, 2), (.aload 7, 2), (.aload 8, 2), (.iload 9, 2), (.invokestatic 119, 3), (.iload 5, 2), (.iand, 1), (.ifCond .ne 7, 3)] := rfl
theorem uL_isOne_18 : uL_isOne 18 = none := rfl
theorem bL_isOne_41 : bL_isOne 41 = [(.iconst 1, 1), (.goto 4, 3)] := rfl
theorem uL_isOne_41 : uL_isOne 41 = none := rfl
theorem bL_isOne_45 : bL_isOne 45 = [(.iconst 0, 1)] := rfl
theorem uL_isOne_45 : uL_isOne 45 = none := rfl
theorem bL_isOne_46 : bL_isOne 46 = [(.ireturn, 1)] := rfl
theorem uL_isOne_46 : uL_isOne 46 = none := rfl
theorem aL_isOne_119 {lim : Nat → Prop} {sc : Nat × (Nat → Int)} : aL_isOne lim sc 119 = some (5, true, 0, 0, C_L_after lim sc) := rfl
def mL_isOne : Room := { frames := 4, cells := 1, slots := 6, locals := 100 }
set_option maxRecDepth 100000 in
set_option maxHeartbeats 4000000 in
theorem okL_isOne (lim : Nat → Prop) (sc : Nat × (Nat → Int)) : pvOkG lim sc fL (aL_isOne lim sc) kL 1 0 (some .boolean) bL_isOne uL_isOne 10 (C_L_isOne lim sc) := by
  intro Q SW hc as z h hS hz
  unfold C_L_isOne at h
  split at h
  · rename_i t ini fin u ini2 fin2 df dl lt e
    obtain ⟨A, B, ⟨htA, ⟨rfl, rfl⟩, htB, ⟨rfl, rfl⟩, hdf, n, hwr, he⟩, ho1, ho0⟩ := h
    refine ⟨Nat.le_of_ble_eq_true rfl, hc 20 _ _ _ _ _ fun _ _ _ => ?_⟩
    clear hc hS hz
    have hA := afK_r htA.2.1 (z.1 dl) (z.1 lt) e.toNat
    have hB := afK_r htB.2.1 (z.1 dl) (z.1 lt) e.toNat
    simp only [pvStG]
    simp only [C_L_after, pvE_aload_n0, pvLA_s, pvLd, pvE_iload_n1, pvLI_s, pvE_aload, pvE_iload, pvE_invokestatic (Ex := fun _ => none) (h0 := rfl), pvC1_s, pvC2_s, pvAf_v, pvAf_x, pvPop, pvCs, pvCat, pvPush, aL_isOne_119, pvE_iload_n2, pvE_iand, pvE_if_ne, pvE_iconst, pvE_ireturn, pvE_if_eq, pvE_aload_n3, pvE_goto, bL_isOne_0, uL_isOne_0, bL_isOne_18, uL_isOne_18, bL_isOne_41, uL_isOne_41, bL_isOne_45, uL_isOne_45, bL_isOne_46, uL_isOne_46, pvRtG, pvRecv_r, pvUp_nl, pvUp_same, pvUp_ap, pvSt_ap, pvX_c, pvX_ms, pvX_mn, pvE_nil, pvEn_i, pvEn_r, pvEn_l, pvEn_0, pvEn_s, pvRt, pvRv, pvTh, pvKc, pvGo, pvTgt, Int.toNat_natCast, false_and, and_false, true_and, and_true, if_true, if_false, reduceIte, reduceCtorEq, forall_const, false_or, or_false, true_or, or_true, ne_eq, not_true_eq_false, not_false_eq_true, implies_true, false_implies, Nat.reduceAdd, Nat.reduceSub, Nat.reduceMul, Nat.reduceEqDiff, Nat.reduceLT, Nat.reduceLeDiff, Int.reduceAdd, Int.reduceSub, Int.reduceMul, Int.reduceNeg, Int.reduceToNat, Int.reduceLE, Int.reduceLT, Int.reduceEq, Int.reduceNe, and_self]
    unfold isP at ho1 ho0
    rcases hdf with rfl | rfl
    · (repeat' first | with_reducible apply And.intro | with_reducible intro _)
      all_goals first
        | omega
        | (refine ⟨A, ⟨htA, rfl, n, hwr, he⟩, ?_⟩; (repeat' first | with_reducible apply And.intro | with_reducible intro _); all_goals first | omega | (apply ho0; intro hh; omega) | (apply ho1; exact ⟨by omega, Or.inl rfl⟩) | grind)
        | grind
    · (repeat' first | with_reducible apply And.intro | with_reducible intro _)
      all_goals first
        | omega
        | (refine ⟨A, ⟨htA, rfl, n, hwr, he⟩, ?_⟩; (repeat' first | with_reducible apply And.intro | with_reducible intro _); all_goals first | omega | (apply ho0; intro hh; omega) | (refine ⟨B, ⟨htB, rfl, n, hwr, he⟩, ?_⟩; (repeat' first | with_reducible apply And.intro | with_reducible intro _); all_goals first | omega | (apply ho0; intro hh; omega) | (apply ho1; exact ⟨by omega, Or.inr (by omega)⟩) | grind) | grind)
        | grind
  · exact h.elim
