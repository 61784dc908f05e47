/-! initial and final states set at once -/
theorem ms_bF : ∀ (x : Fin 16) (q : Fin 4) (o : Fin 2) (p : Fin 4), btF (msF ((x : Nat) : Int) ((q : Nat) : Int) ((o : Nat) : Int)) ((p : Nat) : Int) = if p = q then decide (o = 1) else btF ((x : Nat) : Int) ((p : Nat) : Int) := by decide +kernel
theorem ms_b {x q o p : Int} (hx : 0 ≤ x ∧ x ≤ 15) (hq : 0 ≤ q ∧ q ≤ 3) (ho : o = 0 ∨ o = 1) (hp : 0 ≤ p ∧ p ≤ 3) : btF (msF x q o) p = if p = q then decide (o = 1) else btF x p := by
  obtain ⟨x, rfl⟩ := fin_of (a := x) (n := 16) (by omega)
  obtain ⟨q, rfl⟩ := fin_of (a := q) (n := 4) (by omega)
  obtain ⟨o, rfl⟩ := fin_of (a := o) (n := 2) (by omega)
  obtain ⟨p, rfl⟩ := fin_of (a := p) (n := 4) (by omega)
  rw [ms_bF x q o p]
  have e1 : (p = q) ↔ (((p : Nat) : Int) = ((q : Nat) : Int)) := ⟨fun h => by rw [h], fun h => Fin.ext (by omega)⟩
  have e2 : (o = 1) ↔ (((o : Nat) : Int) = 1) := ⟨fun h => by rw [h]; rfl, fun h => Fin.ext (by show (o : Nat) = 1; omega)⟩
  simp only [e1, e2]
/-- behind q states: bits below q are x's, the others y's -/
def mkP (x y w : Int) (q : Nat) : Prop := (0 ≤ w ∧ w ≤ 15) ∧ ∀ p : Int, 0 ≤ p ∧ p ≤ 3 → btF w p = if p < q then btF x p else btF y p
theorem mkP_0 {x y : Int} (hy : 0 ≤ y ∧ y ≤ 15) : mkP x y y 0 := ⟨hy, fun p hp => by rw [if_neg (by omega)]⟩
theorem mkP_s {x y w : Int} {q : Nat} (h : mkP x y w q) (hq : q < 4) (hm : 0 ≤ msF w q (if btF x q = true then 1 else 0) ∧ msF w q (if btF x q = true then 1 else 0) ≤ 15) : mkP x y (msF w q (if btF x q = true then 1 else 0)) (q + 1) := by
  refine ⟨hm, fun p hp => ?_⟩
  rw [ms_b h.1 (by omega) (by split <;> simp) hp]
  have h2 := h.2 p hp
  by_cases e : p = q
  · rw [e, if_pos rfl, if_pos (show (q : Int) < ((q + 1 : Nat) : Int) by omega)]
    cases btF x q <;> simp
  · rw [if_neg e, h2]
    by_cases e2 : p < q
    · rw [if_pos e2, if_pos (by omega)]
    · rw [if_neg e2, if_neg (by omega)]
theorem mkP_4 {x y w : Int} (hx : 0 ≤ x ∧ x ≤ 15) (h : mkP x y w 4) : w = x := bt_ext h.1 hx fun p hp => by rw [h.2 p hp, if_pos (by omega)]
theorem frF_tt {ids jds : List Nat} {z z1 z2 : pvM} (h1 : frF ids jds z z1) (h2 : frF ids jds z1 z2) : frF ids jds z z2 :=
  ⟨fun id h => (h2.1 id h).trans (h1.1 id h), fun id h => (h2.2.1 id h).trans (h1.2.1 id h), h2.2.2.trans h1.2.2⟩
theorem frF_r {ids jds : List Nat} {z : pvM} : frF ids jds z z := ⟨fun _ _ => rfl, fun _ _ => rfl, rfl⟩
theorem hi_re {z z' : pvM} (h : hiF z) (hr : reF z z') : hiF z' := by
  obtain ⟨-, h2, h3, -⟩ := hr
  unfold hiF at *
  rw [h2, h3]
  split <;> omega
/-- what stays while the law sets states and adds transitions: only those rows change, the caches are stale -/
def stG (z z' : pvM) : Prop := frF [2, 4, 5, 9, 36, 37] [] z z' ∧ hiF z' ∧ (WfC (z'.1 2) ∧ WfC (z'.1 4)) ∧ (∀ j, j ≠ 6 → z'.1 5 j = z.1 5 j) ∧ (∀ j, j ≠ 6 → z'.1 9 j = z.1 9 j) ∧ z'.1 5 6 = 0 ∧ z'.1 9 6 = 0
def C_L_marks (lim : Nat → Prop) (sc : Nat × (Nat → Int)) : pvC
  | [.inr (.inr (.inl id)), .inl s, .inl ini, .inl fin], z, Q => id = 0 ∧ (lim 0 ∧ (0 ≤ s ∧ s ≤ 1) ∧ (0 ≤ ini ∧ ini ≤ 15) ∧ (0 ≤ fin ∧ fin ≤ 15) ∧ stG z z) ∧
      ∀ z' : pvM, stG z z' → autC (z'.1 (rwC s)) = ((autC (z.1 (rwC s))).1, ini, fin, (autC (z.1 (rwC s))).2.2.2) → z'.1 (rwC (1 - s)) = z.1 (rwC (1 - s)) → Q (.inl none) z'
  | _, _, _ => False
def bL_marks : Nat → List (Instr × Nat)
  | 0 => [(.iconst 0, 1), (.istore 4, 2)]
  | 3 => [(.iload 4, 2), (.iconst 4, 1), (.if_icmp .ge 55, 3), (.aload_n 0, 1), (.iload_n 1, 1), (.iload 4, 2), (.iload_n 2, 1), (.iload 4, 2), (.ishr, 1), (.iconst 1, 1), (.iand, 1), (.iconst 1, 1), (.if_icmp .ne 7, 3), (.iconst 1, 1), (.goto 4, 3)]
  | 27 => [(.iconst 0, 1)]
  | 28 => [(.invokevirtual 102, 3), (.pop, 1), (.aload_n 0, 1), (.iload_n 1, 1), (.iload 4, 2), (.iload_n 3, 1), (.iload 4, 2), (.ishr, 1), (.iconst 1, 1), (.iand, 1), (.iconst 1, 1), (.if_icmp .ne 7, 3), (.iconst 1, 1), (.goto 4, 3)]
  | 50 => [(.iconst 0, 1)]
  | 51 => [(.invokevirtual 106, 3), (.pop, 1), (.iinc 4 1, 3), (.goto (-55), 3)]
  | 61 => [(.return_, 1)]
  | _ => []
def uL_marks : Nat → Option (List Bool)
  | 3 => some [true, true, true, true, true]
  | _ => none
def aL_marks (lim : Nat → Prop) (sc : Nat × (Nat → Int)) : pvCa
  | 102 => some (4, false, 8, 0, C_X9_setInitial)
  | 106 => some (4, false, 8, 0, C_X9_setFinal)
  | _ => none
theorem bL_marks_0 : bL_marks 0 = [(.iconst 0, 1), (.istore 4, 2)] := rfl
theorem uL_marks_0 : uL_marks 0 = none := rfl
theorem bL_marks_3 : bL_marks 3 = [(.iload 4, 2), (.iconst 4, 1), (.if_icmp .ge 55, 3), (.aload_n 0, 1), (.iload_n 1, 1), (.iload 4, 2), (.iload_n 2, 1), (.iload 4, 2), (.ishr, 1), (.iconst 1, 1), (.iand, 1), (.iconst 1, 1), (.if_icmp .ne 7, 3), (.iconst 1, 1), (.goto 4, 3)] := rfl
theorem uL_marks_3 : uL_marks 3 = some [true, true, true, true, true] := rfl
theorem bL_marks_27 : bL_marks 27 = [(.iconst 0, 1)] := rfl
theorem uL_marks_27 : uL_marks 27 = none := rfl
theorem bL_marks_28 : bL_marks 28 = [(.invokevirtual 102, 3), (.pop, 1), (.aload_n 0, 1), (.iload_n 1, 1), (.iload 4, 2), (.iload_n 3, 1), (.iload 4, 2), (.ishr, 1), (.iconst 1, 1), (.iand, 1), (.iconst 1, 1), (.if_icmp .ne 7, 3), (.iconst 1, 1), (.goto 4, 3)] := rfl
theorem uL_marks_28 : uL_marks 28 = none := rfl
theorem bL_marks_50 : bL_marks 50 = [(.iconst 0, 1)] := rfl
theorem uL_marks_50 : uL_marks 50 = none := rfl
theorem bL_marks_51 : bL_marks 51 = [(.invokevirtual 106, 3), (.pop, 1), (.iinc 4 1, 3), (.goto (-55), 3)] := rfl
theorem uL_marks_51 : uL_marks 51 = none := rfl
theorem bL_marks_61 : bL_marks 61 = [(.return_, 1)] := rfl
theorem uL_marks_61 : uL_marks 61 = none := rfl
theorem aL_marks_102 {lim : Nat → Prop} {sc : Nat × (Nat → Int)} : aL_marks lim sc 102 = some (4, false, 8, 0, C_X9_setInitial) := rfl
theorem aL_marks_106 {lim : Nat → Prop} {sc : Nat × (Nat → Int)} : aL_marks lim sc 106 = some (4, false, 8, 0, C_X9_setFinal) := rfl
def mL_marks : Room := { frames := 8, cells := 1, slots := 6, locals := 129 }
theorem stG_s {z z1 z2 : pvM} (h : stG z z1) (hf : frF [2, 4, 5, 9, 36, 37] [] z1 z2) (hr : reF z1 z2) (hs : stF z1 z2) (h2 : WfC (z2.1 2)) (h4 : WfC (z2.1 4)) : stG z z2 := by
  obtain ⟨a1, a2, a3, a4, a5, a6, a7⟩ := h
  exact ⟨frF_tt a1 hf, hi_re a2 hr, ⟨h2, h4⟩, fun j hj => (hs.1 j hj).trans (a4 j hj), fun j hj => (hs.2.1 j hj).trans (a5 j hj), hs.2.2.1, hs.2.2.2⟩
theorem rw_two {z1 z2 : pvM} {s : Int} (hs : 0 ≤ s ∧ s ≤ 1) (h2 : WfC (z1.1 2)) (h4 : WfC (z1.1 4)) (h : WfC (z2.1 (rwC s))) (ho : z2.1 (rwC (1 - s)) = z1.1 (rwC (1 - s))) : WfC (z2.1 2) ∧ WfC (z2.1 4) := by
  rcases (show s = 0 ∨ s = 1 by omega) with rfl | rfl
  · exact ⟨h, by have : z2.1 4 = z1.1 4 := ho; rw [this]; exact h4⟩
  · exact ⟨by have : z2.1 2 = z1.1 2 := ho; rw [this]; exact h2, h⟩
set_option maxRecDepth 100000 in
set_option maxHeartbeats 4000000 in
theorem okL_marks (lim : Nat → Prop) (sc : Nat × (Nat → Int)) : pvOkG lim sc fL (aL_marks lim sc) kL 1 0 none bL_marks uL_marks 5 (C_L_marks lim sc) := by
  intro Q SW hc as z h hS hz
  unfold C_L_marks at h
  split at h
  · rename_i id s ini fin
    obtain ⟨rfl, ⟨hl, hs, hi, hf, hst⟩, ho⟩ := h
    have hwz : WfA (autC (z.1 (rwC s))) := by
      rcases (show s = 0 ∨ s = 1 by omega) with rfl | rfl
      · exact hst.2.2.1.1.1
      · exact hst.2.2.1.2.1
    have loop : ∀ (m q : Nat) (z' : pvM) (w v : Int), q + m = 4 → stG z z' → autC (z'.1 (rwC s)) = ((autC (z.1 (rwC s))).1, w, v, (autC (z.1 (rwC s))).2.2.2) → mkP ini (autC (z.1 (rwC s))).2.1 w q → mkP fin (autC (z.1 (rwC s))).2.2.1 v q → z'.1 (rwC (1 - s)) = z.1 (rwC (1 - s)) →
        SW 3 [some (vR 0), some (vI s), some (vI ini), some (vI fin), some (vI (q : Int))] [] z' 0 := by
      intro m
      induction m with
      | zero =>
        intro q z' w v hq h1 h2 h3 h4 h5
        obtain rfl : q = 4 := by omega
        rw [mkP_4 hi h3, mkP_4 hf h4] at h2
        have q9 := ho z' h1 h2 h5
        refine hc 20 _ _ _ _ _ fun _ _ _ => ?_
        clear hc hS hz
        simp only [pvStG]
        simp only [C_X9_setInitial, C_X9_setFinal, pvE_iconst, pvE_istore, pvS1, List.length_cons, List.length_nil, pvClr_i, pvClr_r, pvClr_l, pvClr_d, pvClr_f, pvClr_n, pvE_iload, pvLI_s, pvLd, pvE_icmp_ge, pvE_aload_n0, pvLA_s, pvE_iload_n1, pvE_iload_n2, pvE_ishr, pvE_iand, pvE_icmp_ne, pvE_goto, pvE_invokevirtual, pvC1_s, pvC2_s, pvAf_v, pvAf_x, pvPop, pvCs, pvCat, pvPush, aL_marks_102, pvSh_0, pvSh_1, pvSh_2, pvSh_3, pvSh_4, pvSh_5, pvSh_6, pvSh_7, pvSh_8, pvSh_9, pvSh_10, pvSh_11, pvSh_12, pvSh_13, pvSh_14, pvSh_15, pvSh_16, pvSh_17, pvSh_18, pvSh_19, pvSh_20, pvSh_21, pvSh_22, pvSh_23, pvSh_24, pvSh_25, pvSh_26, pvSh_27, pvSh_28, pvSh_29, pvSh_30, pvSh_31, pvSh_32, pvSh_33, pvSh_34, pvSh_35, pvSh_36, pvSh_37, pvSh_38, pvE_pop_i, pvE_pop_r, pvE_iload_n3, aL_marks_106, pvE_iinc, pvIc_s, pvE_return, bL_marks_0, uL_marks_0, bL_marks_3, uL_marks_3, bL_marks_27, uL_marks_27, bL_marks_28, uL_marks_28, bL_marks_50, uL_marks_50, bL_marks_51, uL_marks_51, bL_marks_61, uL_marks_61, pvMk_t, pvMk_f, pvMk_n, pvRtG, pvRecv_r, pvUp_nl, pvUp_same, pvUp_ap, pvSt_ap, pvX_c, pvX_ms, pvX_mn, pvE_nil, pvEn_i, pvEn_r, pvEn_l, pvEn_0, pvEn_s, pvRt, pvRv, pvTh, pvKc, pvGo, pvTgt, Int.toNat_natCast, false_and, and_false, true_and, and_true, if_true, if_false, reduceIte, reduceCtorEq, forall_const, false_or, or_false, true_or, or_true, ne_eq, not_true_eq_false, not_false_eq_true, implies_true, false_implies, Nat.reduceAdd, Nat.reduceSub, Nat.reduceMul, Nat.reduceEqDiff, Nat.reduceLT, Nat.reduceLeDiff, Int.reduceAdd, Int.reduceSub, Int.reduceMul, Int.reduceNeg, Int.reduceToNat, Int.reduceLE, Int.reduceLT, Int.reduceEq, Int.reduceNe, and_self]
        (repeat' first | with_reducible apply And.intro | with_reducible intro _)
        all_goals first
          | omega
          | exact q9
      | succ m ih =>
        intro q z' w v hq h1 h2 h3 h4 h5
        have hb1 := bt_eq (s := ini) (q := (q : Int)) (by omega)
        have hb2 := bt_eq (s := fin) (q := (q : Int)) (by omega)
        refine hc 20 _ _ _ _ _ fun _ _ _ => ?_
        clear hc hS hz
        simp only [pvStG]
        simp only [C_X9_setInitial, C_X9_setFinal, pvE_iconst, pvE_istore, pvS1, List.length_cons, List.length_nil, pvClr_i, pvClr_r, pvClr_l, pvClr_d, pvClr_f, pvClr_n, pvE_iload, pvLI_s, pvLd, pvE_icmp_ge, pvE_aload_n0, pvLA_s, pvE_iload_n1, pvE_iload_n2, pvE_ishr, pvE_iand, pvE_icmp_ne, pvE_goto, pvE_invokevirtual, pvC1_s, pvC2_s, pvAf_v, pvAf_x, pvPop, pvCs, pvCat, pvPush, aL_marks_102, pvSh_0, pvSh_1, pvSh_2, pvSh_3, pvSh_4, pvSh_5, pvSh_6, pvSh_7, pvSh_8, pvSh_9, pvSh_10, pvSh_11, pvSh_12, pvSh_13, pvSh_14, pvSh_15, pvSh_16, pvSh_17, pvSh_18, pvSh_19, pvSh_20, pvSh_21, pvSh_22, pvSh_23, pvSh_24, pvSh_25, pvSh_26, pvSh_27, pvSh_28, pvSh_29, pvSh_30, pvSh_31, pvSh_32, pvSh_33, pvSh_34, pvSh_35, pvSh_36, pvSh_37, pvSh_38, pvE_pop_i, pvE_pop_r, pvE_iload_n3, aL_marks_106, pvE_iinc, pvIc_s, pvE_return, bL_marks_0, uL_marks_0, bL_marks_3, uL_marks_3, bL_marks_27, uL_marks_27, bL_marks_28, uL_marks_28, bL_marks_50, uL_marks_50, bL_marks_51, uL_marks_51, bL_marks_61, uL_marks_61, pvMk_t, pvMk_f, pvMk_n, pvRtG, pvRecv_r, pvUp_nl, pvUp_same, pvUp_ap, pvSt_ap, pvX_c, pvX_ms, pvX_mn, pvE_nil, pvEn_i, pvEn_r, pvEn_l, pvEn_0, pvEn_s, pvRt, pvRv, pvTh, pvKc, pvGo, pvTgt, Int.toNat_natCast, false_and, and_false, true_and, and_true, if_true, if_false, reduceIte, reduceCtorEq, forall_const, false_or, or_false, true_or, or_true, ne_eq, not_true_eq_false, not_false_eq_true, implies_true, false_implies, Nat.reduceAdd, Nat.reduceSub, Nat.reduceMul, Nat.reduceEqDiff, Nat.reduceLT, Nat.reduceLeDiff, Int.reduceAdd, Int.reduceSub, Int.reduceMul, Int.reduceNeg, Int.reduceToNat, Int.reduceLE, Int.reduceLT, Int.reduceEq, Int.reduceNe, and_self]
        simp only [hb1, hb2]
        have key : ∀ o, o = (if btF ini (q : Int) = true then (1 : Int) else 0) → ∀ o2, o2 = (if btF fin (q : Int) = true then (1 : Int) else 0) → (∀ (z1 : pvM), frF [2, 4, 5, 9, 36, 37] [] z' z1 → reF z' z1 → stF z' z1 → autC (z1.1 (rwC s)) = inA (autC (z'.1 (rwC s))) (msF (autC (z'.1 (rwC s))).2.1 q o) → WfC (z1.1 (rwC s)) → z1.1 (rwC (1 - s)) = z'.1 (rwC (1 - s)) → (hiF z1 ∧ WfC (z1.1 2) ∧ WfC (z1.1 4)) ∧ ∀ (z2 : pvM), frF [2, 4, 5, 9, 36, 37] [] z1 z2 → reF z1 z2 → stF z1 z2 → autC (z2.1 (rwC s)) = fiA (autC (z1.1 (rwC s))) (msF (autC (z1.1 (rwC s))).2.2.1 q o2) → WfC (z2.1 (rwC s)) → z2.1 (rwC (1 - s)) = z1.1 (rwC (1 - s)) → SW 3 [some (vR 0), some (vI s), some (vI ini), some (vI fin), some (vI ((q : Int) + 1))] [] z2 0) := by
          intro o hoo o2 hoo2 z1 f1 r1 s1 a1 w1 o1
          have hw1 := rw_two hs h1.2.2.1.1 h1.2.2.1.2 w1 o1
          have g1 := stG_s h1 f1 r1 s1 hw1.1 hw1.2
          refine ⟨⟨g1.2.1, hw1.1, hw1.2⟩, fun z2 f2 r2 s2 a2 w2 o2' => ?_⟩
          have hw2 := rw_two hs hw1.1 hw1.2 w2 o2'
          have g2 := stG_s g1 f2 r2 s2 hw2.1 hw2.2
          rw [h2] at a1
          have a1' : autC (z1.1 (rwC s)) = ((autC (z.1 (rwC s))).1, msF w q o, v, (autC (z.1 (rwC s))).2.2.2) := a1
          rw [a1'] at a2
          have a2' : autC (z2.1 (rwC s)) = ((autC (z.1 (rwC s))).1, msF w q o, msF v q o2, (autC (z.1 (rwC s))).2.2.2) := a2
          have hr1 := w2.1.2.1
          have hr2 := w2.1.2.2.1
          rw [a2'] at hr1 hr2
          subst hoo hoo2
          exact ih (q + 1) z2 _ _ (by omega) g2 a2' (mkP_s h3 (by omega) hr1) (mkP_s h4 (by omega) hr2) (by rw [o2', o1, h5])
        have hpre : hiF z' ∧ WfC (z'.1 2) ∧ WfC (z'.1 4) := ⟨h1.2.1, h1.2.2.1.1, h1.2.2.1.2⟩
        obtain ⟨p1, p2, p3⟩ := hpre
        by_cases b1 : btF ini (q : Int) = true <;> by_cases b2 : btF fin (q : Int) = true
        all_goals
          simp only [b1, b2, if_true, if_false, Bool.false_eq_true] at key ⊢
          have key := key _ rfl _ rfl
          simp only [if_true, if_false, not_true_eq_false, not_false_eq_true, false_implies, true_implies, show ¬ (0 : Int) = 1 by decide, forall_const, true_and]
          (repeat' first | with_reducible apply And.intro | with_reducible intro _)
          all_goals first
            | omega
            | assumption
            | exact Or.inl rfl
            | exact Or.inr rfl
            | exact (key _ (by assumption) (by assumption) (by assumption) (by assumption) (by assumption) (by assumption)).1.1
            | exact (key _ (by assumption) (by assumption) (by assumption) (by assumption) (by assumption) (by assumption)).1.2.1
            | exact (key _ (by assumption) (by assumption) (by assumption) (by assumption) (by assumption) (by assumption)).1.2.2
            | (refine ((key _ (by assumption) (by assumption) (by assumption) (by assumption) (by assumption) (by assumption)).2 _ ?_ ?_ ?_ ?_ ?_ ?_) <;> assumption)
            | trivial
    refine ⟨Nat.le_of_ble_eq_true rfl, hc 20 _ _ _ _ _ fun _ _ _ => ?_⟩
    have q := loop 4 0 z (autC (z.1 (rwC s))).2.1 (autC (z.1 (rwC s))).2.2.1 rfl hst rfl (mkP_0 hwz.2.1) (mkP_0 hwz.2.2.1) rfl
    clear hc hS hz loop
    simp only [pvStG]
    simp only [pvE_iconst, pvE_istore, pvS1, List.length_cons, List.length_nil, pvClr_i, pvClr_r, pvClr_l, pvClr_d, pvClr_f, pvClr_n, pvE_iload, pvLI_s, pvLd, pvE_icmp_ge, pvE_aload_n0, pvLA_s, pvE_iload_n1, pvE_iload_n2, pvE_ishr, pvE_iand, pvE_icmp_ne, pvE_goto, pvE_invokevirtual, pvC1_s, pvC2_s, pvAf_v, pvAf_x, pvPop, pvCs, pvCat, pvPush, aL_marks_102, pvSh_0, pvSh_1, pvSh_2, pvSh_3, pvSh_4, pvSh_5, pvSh_6, pvSh_7, pvSh_8, pvSh_9, pvSh_10, pvSh_11, pvSh_12, pvSh_13, pvSh_14, pvSh_15, pvSh_16, pvSh_17, pvSh_18, pvSh_19, pvSh_20, pvSh_21, pvSh_22, pvSh_23, pvSh_24, pvSh_25, pvSh_26, pvSh_27, pvSh_28, pvSh_29, pvSh_30, pvSh_31, pvSh_32, pvSh_33, pvSh_34, pvSh_35, pvSh_36, pvSh_37, pvSh_38, pvE_pop_i, pvE_pop_r, pvE_iload_n3, aL_marks_106, pvE_iinc, pvIc_s, pvE_return, bL_marks_0, uL_marks_0, bL_marks_3, uL_marks_3, bL_marks_27, uL_marks_27, bL_marks_28, uL_marks_28, bL_marks_50, uL_marks_50, bL_marks_51, uL_marks_51, bL_marks_61, uL_marks_61, pvMk_t, pvMk_f, pvMk_n, pvRtG, pvRecv_r, pvUp_nl, pvUp_same, pvUp_ap, pvSt_ap, pvX_c, pvX_ms, pvX_mn, pvE_nil, pvEn_i, pvEn_r, pvEn_l, pvEn_0, pvEn_s, pvRt, pvRv, pvTh, pvKc, pvGo, pvTgt, Int.toNat_natCast, false_and, and_false, true_and, and_true, if_true, if_false, reduceIte, reduceCtorEq, forall_const, false_or, or_false, true_or, or_true, ne_eq, not_true_eq_false, not_false_eq_true, implies_true, false_implies, Nat.reduceAdd, Nat.reduceSub, Nat.reduceMul, Nat.reduceEqDiff, Nat.reduceLT, Nat.reduceLeDiff, Int.reduceAdd, Int.reduceSub, Int.reduceMul, Int.reduceNeg, Int.reduceToNat, Int.reduceLE, Int.reduceLT, Int.reduceEq, Int.reduceNe, and_self]
    (repeat' first | with_reducible apply And.intro | with_reducible intro _)
    all_goals first
      | omega
      | exact q
  · exact h.elim
