/-! the law's own simulation is the class's: values of clocks, steps, reached sets -/
def vdF (y : Int) : Int := if y = 9 then 5 else y
theorem vlK_r {d l : Nat → Int} {c : Int} (k : Nat) : ∀ s : Int, 0 ≤ s → (∀ j, j < k → 0 ≤ d j) → (0 ≤ vlK d l c k s ∧ vlK d l c k s ≤ 4) ∨ vlK d l c k s = 9 := by
  induction k with
  | zero => exact fun s _ _ => Or.inr rfl
  | succ k ih =>
    intro s hs hd
    simp only [vlK]
    split
    · left
      split <;> omega
    · exact ih (s + d k) (by have := hd k (by omega); omega) (fun j hj => hd j (by omega))
theorem gwF_gw {x d s : Int} (h : 0 ≤ x ∧ x ≤ 5 ∧ 0 ≤ d ∧ 0 ≤ s) : gwF (gwF x d) s = gwF x (s + d) := by
  unfold gwF
  omega
theorem ptF_ps {v d c : Int} (hv : 0 ≤ v ∧ v < 216) (hd : 0 ≤ d) (hc : 0 ≤ c ∧ c ≤ 2) : ptF (psF v d) c = gwF (ptF v c) d := by
  have h0 := gwF_r (x := v % 6) (d := d) (by omega)
  have h1 := gwF_r (x := v / 6 % 6) (d := d) (by omega)
  have h2 := gwF_r (x := v / 36) (d := d) (by omega)
  unfold ptF psF
  rcases (show c = 0 ∨ c = 1 ∨ c = 2 by omega) with rfl | rfl | rfl
  · simp only [if_true]
    omega
  · simp only [show ¬ (1 : Int) = 0 by decide, if_false, if_true]
    omega
  · simp only [show ¬ (2 : Int) = 0 by decide, show ¬ (2 : Int) = 1 by decide, if_false]
    omega
theorem ptF_rs {v a c : Int} (hv : 0 ≤ v ∧ v < 216) (ha : 0 ≤ a ∧ a ≤ 2) (hc : 0 ≤ c ∧ c ≤ 2) : ptF (rsF v a) c = if a = c then 0 else ptF v c := by
  unfold ptF rsF
  rcases (show c = 0 ∨ c = 1 ∨ c = 2 by omega) with rfl | rfl | rfl <;> rcases (show a = 0 ∨ a = 1 ∨ a = 2 by omega) with rfl | rfl | rfl <;> simp <;> omega
theorem vaF_dig {n : Int} {d l : Nat → Int} (hw : WdF n d l) {c : Int} (hc : 0 ≤ c ∧ c ≤ 2) (k : Nat) : (k : Int) ≤ n → ∀ s : Int, 0 ≤ s → gwF (ptF (vaF d l k) c) s = vdF (vlK d l c k s) := by
  induction k with
  | zero =>
    intro _ s hs
    have e : ptF 215 c = 5 := by
      unfold ptF
      rcases (show c = 0 ∨ c = 1 ∨ c = 2 by omega) with rfl | rfl | rfl <;> rfl
    show gwF (ptF 215 c) s = 5
    rw [e]
    rfl
  | succ k ih =>
    intro hk s hs
    have hv := vaF_r hw k (by omega)
    have hd := hw.2 k (by omega)
    have hp := psF_r (v := vaF d l k) (d := d k) (by omega)
    have hpt := ptF_r (c := c) hv
    simp only [vaF, vlK]
    rw [ptF_rs hp hd.2 hc]
    split
    · have : gwF 0 s = if s < 4 then s else 4 := by
        unfold gwF
        omega
      rw [this]
      unfold vdF
      split <;> split <;> omega
    · rw [ptF_ps hv hd.1.1 hc, gwF_gw (by omega)]
      exact ih (by omega) (s + d k) (by omega)
theorem va_read {n : Int} {d l : Nat → Int} (hw : WdF n d l) {c : Int} (hc : 0 ≤ c ∧ c ≤ 2) {e : Nat} (he : (e : Int) < n) : ptF (psF (vaF d l e) (d e)) c = vdF (vlF d l e c) := by
  rw [ptF_ps (vaF_r hw e (by omega)) (hw.2 e he).1.1 hc]
  exact vaF_dig hw hc e (by omega) _ (hw.2 e he).1.1
theorem vlF_r {n : Int} {d l : Nat → Int} (hw : WdF n d l) {e : Nat} (he : (e : Int) < n) (c : Int) : (0 ≤ vlF d l e c ∧ vlF d l e c ≤ 4) ∨ vlF d l e c = 9 :=
  vlK_r e (d e) (hw.2 e he).1.1 (fun j hj => (hw.2 j (by omega)).1.1)
theorem dg_vd {y : Int} (h : (0 ≤ y ∧ y ≤ 4) ∨ y = 9) : dgF (vdF y) = y := by
  unfold dgF vdF
  rcases h with h | rfl
  · rw [if_neg (show ¬ y = 9 by omega), if_neg (by omega)]
  · rfl
/-- the valuation with which an event is read, written, is the values of the clocks -/
theorem td_read {n : Int} {d l : Nat → Int} (hw : WdF n d l) {e : Nat} (he : (e : Int) < n) : tdF (psF (vaF d l e) (d e)) = vlF d l e 0 + 10 * vlF d l e 1 + 100 * vlF d l e 2 := by
  have h0 := va_read hw (c := 0) (by decide) he
  have h1 := va_read hw (c := 1) (by decide) he
  have h2 := va_read hw (c := 2) (by decide) he
  generalize psF (vaF d l e) (d e) = v at h0 h1 h2 ⊢
  have e0 : ptF v 0 = v % 6 := rfl
  have e1 : ptF v 1 = v / 6 % 6 := rfl
  have e2 : ptF v 2 = v / 36 := rfl
  unfold tdF
  rw [← e0, ← e1, ← e2, h0, h1, h2, dg_vd (vlF_r hw he 0), dg_vd (vlF_r hw he 1), dg_vd (vlF_r hw he 2)]
theorem hl_hd {kind num y : Int} : hlF kind num y = hdF kind num (vdF y) := rfl
/-- a row of transitions by draws is an automaton -/
def tmP (f : Nat → Int) (A : Aut) : Prop := WfA A ∧ ∀ k : Nat, (k : Int) < A.1 → A.2.2.2 k 3 ≤ 2 ∧ ∀ c : Nat, c < 10 → A.2.2.2 k c = f (10 * k + c)
def trP (lim : Nat → Prop) (z : pvM) (t : Nat) (A : Aut) : Prop := (lim t ∧ t ≠ 60 ∧ 64 ≤ t ∧ (pvAI t : Int) = 10 * A.1) ∧ tmP (z.1 t) A
def C_L_goes (lim : Nat → Prop) (sc : Nat × (Nat → Int)) : pvC
  | [.inr (.inr (.inl t)), .inl k, .inl q, .inr (.inr (.inl dl)), .inr (.inr (.inl lt)), .inl e], z, Q => ∃ A : Aut, (trP lim z t A ∧ (0 ≤ k ∧ k < A.1) ∧ ∃ n, wrP lim z dl lt n ∧ 0 ≤ e ∧ e < n) ∧
      (A.2.2.2 k.toNat 0 = q ∧ A.2.2.2 k.toNat 1 = z.1 lt e.toNat ∧ blF (A.2.2.2 k.toNat) (psF (vaF (z.1 dl) (z.1 lt) e.toNat) (z.1 dl e.toNat)) < 0 → Q (.inl (some (vI 1))) z) ∧
      (¬ (A.2.2.2 k.toNat 0 = q ∧ A.2.2.2 k.toNat 1 = z.1 lt e.toNat ∧ blF (A.2.2.2 k.toNat) (psF (vaF (z.1 dl) (z.1 lt) e.toNat) (z.1 dl e.toNat)) < 0) → Q (.inl (some (vI 0))) z)
  | _, _, _ => False
def bL_goes : Nat → List (Instr × Nat)
  | 0 => [(.aload_n 0, 1), (.bipush 10, 2), (.iload_n 1, 1), (.imul, 1), (.iaload, 1), (.iload_n 2, 1), (.if_icmp .ne 19, 3), (.aload_n 0, 1), (.bipush 10, 2), (.iload_n 1, 1), (.imul, 1), (.iconst 1, 1), (.iadd, 1), (.iaload, 1), (.aload 4, 2), (.iload 5, 2), (.iaload, 1), (.if_icmp .eq 5, 3)]
  | 26 => [(.iconst 0, 1), (.ireturn, 1)]
  | 28 => [(.iconst 0, 1), (.istore 6, 2)]
  | 31 => [(.iload 6, 2), (.aload_n 0, 1), (.bipush 10, 2), (.iload_n 1, 1), (.imul, 1), (.iconst 3, 1), (.iadd, 1), (.iaload, 1), (.if_icmp .ge 65, 3), (.aload_n 0, 1), (.bipush 10, 2), (.iload_n 1, 1), (.imul, 1), (.iconst 5, 1), (.iadd, 1), (.iconst 3, 1), (.iload 6, 2), (.imul, 1), (.iadd, 1), (.iaload, 1), (.aload_n 0, 1), (.bipush 10, 2), (.iload_n 1, 1), (.imul, 1), (.bipush 6, 2), (.iadd, 1), (.iconst 3, 1), (.iload 6, 2), (.imul, 1), (.iadd, 1), (.iaload, 1), (.aload_n 3, 1), (.aload 4, 2), (.iload 5, 2), (.aload_n 0, 1), (.bipush 10, 2), (.iload_n 1, 1), (.imul, 1), (.iconst 4, 1), (.iadd, 1), (.iconst 3, 1), (.iload 6, 2), (.imul, 1), (.iadd, 1), (.iaload, 1), (.invokestatic 90, 3), (.invokestatic 94, 3), (.ifCond .ne 5, 3), (.iconst 0, 1), (.ireturn, 1)]
  | 100 => [(.iinc 6 1, 3), (.goto (-72), 3)]
  | 106 => [(.iconst 1, 1), (.ireturn, 1)]
  | _ => []
def uL_goes : Nat → Option (List Bool)
  | 31 => some [true, true, false, true, true, true, true]
  | _ => none
def aL_goes (lim : Nat → Prop) (sc : Nat × (Nat → Int)) : pvCa
  | 90 => some (4, true, 0, 0, C_L_value lim sc)
  | 94 => some (3, true, 0, 0, C_L_holds lim sc)
  | _ => none
theorem bL_goes_0 : bL_goes 0 = [(.aload_n 0, 1), (.bipush 10, 2), (.iload_n 1, 1), (.imul, 1), (.iaload, 1), (.iload_n 2, 1), (.if_icmp .ne 19, 3), (.aload_n 0, 1), (.bipush 10, 2), (.iload_n 1, 1), (.imul, 1), (.iconst 1, 1), (.iadd, 1), (.iaload, 1), (.aload 4, 2), (.iload 5, 2), (.iaload, 1), (.if_icmp .eq 5, 3)] := rfl
theorem uL_goes_0 : uL_goes 0 = none := rfl
theorem bL_goes_26 : bL_goes 26 = [(.iconst 0, 1), (.ireturn, 1)] := rfl
theorem uL_goes_26 : uL_goes 26 = none := rfl
theorem bL_goes_28 : bL_goes 28 = [(.iconst 0, 1), (.istore 6, 2)] := rfl
theorem uL_goes_28 : uL_goes 28 = none := rfl
theorem bL_goes_31 : bL_goes 31 = [(.iload 6, 2), (.aload_n 0, 1), (.bipush 10, 2), (.iload_n 1, 1), (.imul, 1), (.iconst 3, 1), (.iadd, 1), (.iaload, 1), (.if_icmp .ge 65, 3), (.aload_n 0, 1), (.bipush 10, 2), (.iload_n 1, 1), (.imul, 1), (.iconst 5, 1), (.iadd, 1), (.iconst 3, 1), (.iload 6, 2), (.imul, 1), (.iadd, 1), (.iaload, 1), (.aload_n 0, 1), (.bipush 10, 2), (.iload_n 1, 1), (.imul, 1), (.bipush 6, 2), (.iadd, 1), (.iconst 3, 1), (.iload 6, 2), (.imul, 1), (.iadd, 1), (.iaload, 1), (.aload_n 3, 1), (.aload 4, 2), (.iload 5, 2), (.aload_n 0, 1), (.bipush 10, 2), (.iload_n 1, 1), (.imul, 1), (.iconst 4, 1), (.iadd, 1), (.iconst 3, 1), (.iload 6, 2), (.imul, 1), (.iadd, 1), (.iaload, 1), (.invokestatic 90, 3), (.invokestatic 94, 3), (.ifCond .ne 5, 3), (.iconst 0, 1), (.ireturn, 1)] := rfl
theorem uL_goes_31 : uL_goes 31 = some [true, true, false, true, true, true, true] := rfl
theorem bL_goes_100 : bL_goes 100 = [(.iinc 6 1, 3), (.goto (-72), 3)] := rfl
theorem uL_goes_100 : uL_goes 100 = none := rfl
theorem bL_goes_106 : bL_goes 106 = [(.iconst 1, 1), (.ireturn, 1)] := rfl
theorem uL_goes_106 : uL_goes 106 = none := rfl
theorem aL_goes_90 {lim : Nat → Prop} {sc : Nat × (Nat → Int)} : aL_goes lim sc 90 = some (4, true, 0, 0, C_L_value lim sc) := rfl
theorem aL_goes_94 {lim : Nat → Prop} {sc : Nat × (Nat → Int)} : aL_goes lim sc 94 = some (3, true, 0, 0, C_L_holds lim sc) := rfl
def mL_goes : Room := { frames := 2, cells := 1, slots := 6, locals := 46 }
theorem blK_le {T : Nat → Int} {v : Int} (m k : Nat) : blK T v m k < 0 ∨ (k : Int) ≤ blK T v m k := by
  induction m generalizing k with
  | zero => exact Or.inl (show (-1 : Int) < 0 by decide)
  | succ m ih =>
    simp only [blK]
    split
    · rcases ih (k + 1) with h | h
      · exact Or.inl h
      · right; omega
    · right; exact Int.le_refl _
set_option maxRecDepth 100000 in
set_option maxHeartbeats 4000000 in
theorem okL_goes (lim : Nat → Prop) (sc : Nat × (Nat → Int)) : pvOkG lim sc fL (aL_goes lim sc) kL 1 0 (some .boolean) bL_goes uL_goes 7 (C_L_goes lim sc) := by
  intro Q SW hc as z h hS hz
  unfold C_L_goes at h
  split at h
  · rename_i t k q dl lt e
    obtain ⟨A, ⟨⟨⟨t1, t2, t3, t4⟩, hwA, htm⟩, hk, n, hwr, he⟩, ho1, ho0⟩ := h
    have hn1 := hwA.1
    have hT := hwA.2.2.2 k.toNat (by omega)
    obtain ⟨hw2, hrow⟩ := htm k.toNat (by omega)
    obtain ⟨hT0, hT1, hT2, hT3, hT4⟩ := hT
    have hx : ∀ c : Nat, c < 10 → z.1 t (10 * k + c).toNat = A.2.2.2 k.toNat c := fun c hc => by
      rw [hrow c hc]
      exact congrArg (z.1 t) (by omega)
    have hx0 : z.1 t (10 * k).toNat = A.2.2.2 k.toNat 0 := by
      have := hx 0 (by decide)
      rw [show (10 * k + ((0 : Nat) : Int)) = 10 * k by omega] at this
      exact this
    have hx1 : z.1 t (10 * k + 1).toNat = A.2.2.2 k.toNat 1 := hx 1 (by decide)
    have hx3 : z.1 t (10 * k + 3).toNat = A.2.2.2 k.toNat 3 := hx 3 (by decide)
    generalize hv : psF (vaF (z.1 dl) (z.1 lt) e.toNat) (z.1 dl e.toNat) = v at ho1 ho0
    obtain ⟨⟨l1, l2, l3, l4, l5, l6⟩, hwd⟩ := id hwr
    have hw := A.2.2.2 k.toNat 3
    have loop : ∀ (m i : Nat), (i : Int) + m = A.2.2.2 k.toNat 3 → A.2.2.2 k.toNat 0 = q → A.2.2.2 k.toNat 1 = z.1 lt e.toNat → (blF (A.2.2.2 k.toNat) v < 0 ↔ blK (A.2.2.2 k.toNat) v m i < 0) → SW 31 [some (vR t), some (vI k), none, some (vR dl), some (vR lt), some (vI e), some (vI (i : Int))] [] z 0 := by
      intro m
      induction m with
      | zero =>
        intro i hi hq0 hq1 hb
        have hb2 : blF (A.2.2.2 k.toNat) v < 0 := hb.mpr (show (-1 : Int) < 0 by decide)
        have q1 := ho1 ⟨hq0, hq1, hb2⟩
        refine hc 20 _ _ _ _ _ fun _ _ _ => ?_
        clear hc hS hz
        simp only [pvStG]
        simp only [C_L_value, C_L_holds, pvE_aload_n0, pvLA_s, pvLd, pvE_bipush, pvE_iload_n1, pvLI_s, pvE_imul, pvE_iaload, pvE_iload_n2, pvE_icmp_ne, pvE_iconst, pvE_iadd, pvE_aload, pvE_iload, pvE_icmp_eq, pvE_ireturn, pvE_istore, pvS1, List.length_cons, List.length_nil, pvClr_i, pvClr_r, pvClr_l, pvClr_d, pvClr_f, pvClr_n, pvE_icmp_ge, pvE_aload_n3, pvE_invokestatic (Ex := fun _ => none) (h0 := rfl), pvC1_s, pvC2_s, pvAf_v, pvAf_x, pvPop, pvCs, pvCat, pvPush, aL_goes_90, aL_goes_94, pvE_if_ne, pvE_iinc, pvIc_s, pvE_goto, bL_goes_0, uL_goes_0, bL_goes_26, uL_goes_26, bL_goes_28, uL_goes_28, bL_goes_31, uL_goes_31, bL_goes_100, uL_goes_100, bL_goes_106, uL_goes_106, pvMk_t, pvMk_f, pvMk_n, pvRtG, pvRecv_r, pvUp_nl, pvUp_same, pvUp_ap, pvSt_ap, pvX_c, pvX_ms, pvX_mn, pvE_nil, pvEn_i, pvEn_r, pvEn_l, pvEn_0, pvEn_s, pvRt, pvRv, pvTh, pvKc, pvGo, pvTgt, Int.toNat_natCast, false_and, and_false, true_and, and_true, if_true, if_false, reduceIte, reduceCtorEq, forall_const, false_or, or_false, true_or, or_true, ne_eq, not_true_eq_false, not_false_eq_true, implies_true, false_implies, Nat.reduceAdd, Nat.reduceSub, Nat.reduceMul, Nat.reduceEqDiff, Nat.reduceLT, Nat.reduceLeDiff, Int.reduceAdd, Int.reduceSub, Int.reduceMul, Int.reduceNeg, Int.reduceToNat, Int.reduceLE, Int.reduceLT, Int.reduceEq, Int.reduceNe, and_self]
        (repeat' (first | with_reducible apply And.intro | intro _))
        all_goals first
          | omega
          | assumption
          | grind
      | succ m ih =>
        intro i hi hq0 hq1 hb
        have hi4 := hT4 i (by omega)
        have e4 := hx (4 + 3 * i) (by omega)
        have e5 := hx (5 + 3 * i) (by omega)
        have e6 := hx (6 + 3 * i) (by omega)
        rw [show (10 * k + ((4 + 3 * i : Nat) : Int)) = 10 * k + 4 + 3 * (i : Int) by omega] at e4
        rw [show (10 * k + ((5 + 3 * i : Nat) : Int)) = 10 * k + 5 + 3 * (i : Int) by omega] at e5
        rw [show (10 * k + ((6 + 3 * i : Nat) : Int)) = 10 * k + 6 + 3 * (i : Int) by omega] at e6
        have hr := va_read hwd (c := A.2.2.2 k.toNat (4 + 3 * i)) hi4.1 (e := e.toNat) (by omega)
        rw [hv] at hr
        have hvr := vlF_r hwd (e := e.toNat) (by omega) (A.2.2.2 k.toNat (4 + 3 * i))
        have hval : ∃ n, wrP lim z dl lt n ∧ 0 ≤ e ∧ e < n := ⟨n, hwr, he⟩
        simp only [blK, hr] at hb
        rw [← hl_hd] at hb
        refine hc 20 _ _ _ _ _ fun _ _ _ => ?_
        clear hc hS hz
        simp only [pvStG]
        simp only [C_L_value, C_L_holds, pvE_aload_n0, pvLA_s, pvLd, pvE_bipush, pvE_iload_n1, pvLI_s, pvE_imul, pvE_iaload, pvE_iload_n2, pvE_icmp_ne, pvE_iconst, pvE_iadd, pvE_aload, pvE_iload, pvE_icmp_eq, pvE_ireturn, pvE_istore, pvS1, List.length_cons, List.length_nil, pvClr_i, pvClr_r, pvClr_l, pvClr_d, pvClr_f, pvClr_n, pvE_icmp_ge, pvE_aload_n3, pvE_invokestatic (Ex := fun _ => none) (h0 := rfl), pvC1_s, pvC2_s, pvAf_v, pvAf_x, pvPop, pvCs, pvCat, pvPush, aL_goes_90, aL_goes_94, pvE_if_ne, pvE_iinc, pvIc_s, pvE_goto, bL_goes_0, uL_goes_0, bL_goes_26, uL_goes_26, bL_goes_28, uL_goes_28, bL_goes_31, uL_goes_31, bL_goes_100, uL_goes_100, bL_goes_106, uL_goes_106, pvMk_t, pvMk_f, pvMk_n, pvRtG, pvRecv_r, pvUp_nl, pvUp_same, pvUp_ap, pvSt_ap, pvX_c, pvX_ms, pvX_mn, pvE_nil, pvEn_i, pvEn_r, pvEn_l, pvEn_0, pvEn_s, pvRt, pvRv, pvTh, pvKc, pvGo, pvTgt, Int.toNat_natCast, false_and, and_false, true_and, and_true, if_true, if_false, reduceIte, reduceCtorEq, forall_const, false_or, or_false, true_or, or_true, ne_eq, not_true_eq_false, not_false_eq_true, implies_true, false_implies, Nat.reduceAdd, Nat.reduceSub, Nat.reduceMul, Nat.reduceEqDiff, Nat.reduceLT, Nat.reduceLeDiff, Int.reduceAdd, Int.reduceSub, Int.reduceMul, Int.reduceNeg, Int.reduceToNat, Int.reduceLE, Int.reduceLT, Int.reduceEq, Int.reduceNe, and_self]
        have ihk := fun hb' => ih (i + 1) (by omega) hq0 hq1 hb'
        by_cases hh : hlF (A.2.2.2 k.toNat (5 + 3 * i)) (A.2.2.2 k.toNat (6 + 3 * i)) (vlF (z.1 dl) (z.1 lt) e.toNat (A.2.2.2 k.toNat (4 + 3 * i))) = true
        · rw [if_pos hh] at hb
          have q9 := ihk hb
          rw [e4, e5, e6, hh]
          (repeat' (first | with_reducible apply And.intro | intro _))
          all_goals first
            | omega
            | assumption
            | (simp at *; done)
            | grind
        · have hb2 : ¬ blF (A.2.2.2 k.toNat) v < 0 := by
            rw [hb, if_neg hh]
            omega
          have q0 := ho0 (fun h => hb2 h.2.2)
          rw [e4, e5, e6, eq_false_of_ne_true hh]
          (repeat' (first | with_reducible apply And.intro | intro _))
          all_goals first
            | omega
            | assumption
            | (simp at *; done)
            | grind
    refine ⟨Nat.le_of_ble_eq_true rfl, hc 20 _ _ _ _ _ fun _ _ _ => ?_⟩
    have q0 := fun h1 h2 => loop (A.2.2.2 k.toNat 3).toNat 0 (by omega) h1 h2 Iff.rfl
    clear hc hS hz loop
    simp only [pvStG]
    simp only [pvE_aload_n0, pvLA_s, pvLd, pvE_bipush, pvE_iload_n1, pvLI_s, pvE_imul, pvE_iaload, pvE_iload_n2, pvE_icmp_ne, pvE_iconst, pvE_iadd, pvE_aload, pvE_iload, pvE_icmp_eq, pvE_ireturn, pvE_istore, pvS1, List.length_cons, List.length_nil, pvClr_i, pvClr_r, pvClr_l, pvClr_d, pvClr_f, pvClr_n, pvE_icmp_ge, pvE_aload_n3, pvE_invokestatic (Ex := fun _ => none) (h0 := rfl), pvC1_s, pvC2_s, pvAf_v, pvAf_x, pvPop, pvCs, pvCat, pvPush, aL_goes_90, aL_goes_94, pvE_if_ne, pvE_iinc, pvIc_s, pvE_goto, bL_goes_0, uL_goes_0, bL_goes_26, uL_goes_26, bL_goes_28, uL_goes_28, bL_goes_31, uL_goes_31, bL_goes_100, uL_goes_100, bL_goes_106, uL_goes_106, pvMk_t, pvMk_f, pvMk_n, pvRtG, pvRecv_r, pvUp_nl, pvUp_same, pvUp_ap, pvSt_ap, pvX_c, pvX_ms, pvX_mn, pvE_nil, pvEn_i, pvEn_r, pvEn_l, pvEn_0, pvEn_s, pvRt, pvRv, pvTh, pvKc, pvGo, pvTgt, Int.toNat_natCast, false_and, and_false, true_and, and_true, if_true, if_false, reduceIte, reduceCtorEq, forall_const, false_or, or_false, true_or, or_true, ne_eq, not_true_eq_false, not_false_eq_true, implies_true, false_implies, Nat.reduceAdd, Nat.reduceSub, Nat.reduceMul, Nat.reduceEqDiff, Nat.reduceLT, Nat.reduceLeDiff, Int.reduceAdd, Int.reduceSub, Int.reduceMul, Int.reduceNeg, Int.reduceToNat, Int.reduceLE, Int.reduceLT, Int.reduceEq, Int.reduceNe, and_self]
    (repeat' (first | with_reducible apply And.intro | intro _))
    all_goals first
      | omega
      | assumption
      | (apply ho0; rintro ⟨b1, b2, b3⟩; omega)
      | (apply q0 <;> omega)
      | grind
  · exact h.elim
