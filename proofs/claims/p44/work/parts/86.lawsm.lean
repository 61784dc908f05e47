/-! the law's small methods -/
def fL : pvF
  | _ => none
def kL : pvCo
  | 7 => some (vI 40503)
  | 200 => some (vD 4642120500284227584)
  | _ => none
theorem kL_7 : kL 7 = some (vI 40503) := rfl
theorem kL_200 : kL 200 = some (vD 4642120500284227584) := rfl
theorem ush1_r (a : Int) : 0 ≤ pvUshr a 1 ∧ pvUshr a 1 ≤ 2147483647 := by
  unfold pvUshr
  have h := pk_ushr (Int32.ofInt a) (Int32.ofInt 1) 1 (by decide)
  generalize ((Int32.ofInt a).toUInt32 >>> ((Int32.ofInt 1).toUInt32 &&& Int32.toUInt32 31)).toInt32 = y at h ⊢
  have h2 : y.toBitVec.toNat < 2 ^ 31 := by
    rw [h]
    have := (Int32.ofInt a).toBitVec.isLt
    omega
  have h3 : y.toInt = (y.toBitVec.toNat : Int) := by
    show y.toBitVec.toInt = _
    rw [BitVec.toInt_eq_toNat_cond, if_pos (by omega)]
  omega
/-- what the script holds at k -/
def clS (sc : Nat × (Nat → Int)) (k : Int) : Int := if k < sc.1 then sc.2 k.toNat else 40503 * k
def dwS (sc : Nat × (Nat → Int)) (k : Int) : Int := pvUshr (clS sc k) 1
theorem dwS_r (sc : Nat × (Nat → Int)) (k : Int) : 0 ≤ dwS sc k ∧ dwS sc k ≤ 2147483647 := ush1_r _
def C_L_cell (lim : Nat → Prop) (sc : Nat × (Nat → Int)) : pvC
  | [.inr (.inr (.inl id)), .inl k], z, Q => id = 60 ∧ (lim 60 ∧ 0 ≤ k ∧ k ≤ 200) ∧ Q (.inl (some (vI (clS sc k)))) z
  | _, _, _ => False
def bL_cell : Nat → List (Instr × Nat)
  | 0 => [(.iload_n 1, 1), (.aload_n 0, 1), (.arraylength, 1), (.if_icmp .ge 9, 3), (.aload_n 0, 1), (.iload_n 1, 1), (.iaload, 1), (.goto 7, 3)]
  | 12 => [(.ldc 7, 2), (.iload_n 1, 1), (.imul, 1)]
  | 16 => [(.ireturn, 1)]
  | _ => []
def uL_cell : Nat → Option (List Bool)
  | _ => none
def aL_cell (lim : Nat → Prop) (sc : Nat × (Nat → Int)) : pvCa
  | _ => none
theorem bL_cell_0 : bL_cell 0 = [(.iload_n 1, 1), (.aload_n 0, 1), (.arraylength, 1), (.if_icmp .ge 9, 3), (.aload_n 0, 1), (.iload_n 1, 1), (.iaload, 1), (.goto 7, 3)] := rfl
theorem uL_cell_0 : uL_cell 0 = none := rfl
theorem bL_cell_12 : bL_cell 12 = [(.ldc 7, 2), (.iload_n 1, 1), (.imul, 1)] := rfl
theorem uL_cell_12 : uL_cell 12 = none := rfl
theorem bL_cell_16 : bL_cell 16 = [(.ireturn, 1)] := rfl
theorem uL_cell_16 : uL_cell 16 = none := rfl
def mL_cell : Room := { frames := 0, cells := 1, slots := 6, locals := 0 }
set_option maxRecDepth 100000 in
set_option maxHeartbeats 4000000 in
theorem okL_cell (lim : Nat → Prop) (sc : Nat × (Nat → Int)) : pvOkG lim sc fL (aL_cell lim sc) kL 1 0 (some .int) bL_cell uL_cell 2 (C_L_cell lim sc) := by
  intro Q SW hc as z h hS hz
  unfold C_L_cell at h
  split at h
  · rename_i id k
    obtain ⟨rfl, ⟨hl, h1, h2⟩, h3⟩ := h
    refine ⟨Nat.le_of_ble_eq_true rfl, hc 20 _ _ _ _ _ fun _ _ _ => ?_⟩
    clear hc hS
    simp only [pvStG]
    simp only [pvE_iload_n1, pvLI_s, pvLd, pvE_aload_n0, pvLA_s, pvE_arraylength, pvE_icmp_ge, pvE_iaload, pvE_goto, pvE_ldc (h0 := kL_7), pvE_imul, pvE_ireturn, bL_cell_0, uL_cell_0, bL_cell_12, uL_cell_12, bL_cell_16, uL_cell_16, pvRtG, pvRecv_r, pvUp_nl, pvUp_same, pvUp_ap, pvSt_ap, pvX_c, pvX_ms, pvX_mn, pvE_nil, pvEn_i, pvEn_r, pvEn_l, pvEn_0, pvEn_s, pvRt, pvRv, pvTh, pvKc, pvGo, pvTgt, Int.toNat_natCast, false_and, and_false, true_and, and_true, if_true, if_false, reduceIte, reduceCtorEq, forall_const, false_or, or_false, true_or, or_true, ne_eq, not_true_eq_false, not_false_eq_true, implies_true, false_implies, Nat.reduceAdd, Nat.reduceSub, Nat.reduceMul, Nat.reduceEqDiff, Nat.reduceLT, Nat.reduceLeDiff, Int.reduceAdd, Int.reduceSub, Int.reduceMul, Int.reduceNeg, Int.reduceToNat, Int.reduceLE, Int.reduceLT, Int.reduceEq, Int.reduceNe, and_self]
    unfold clS at h3
    grind
  · exact h.elim
def C_L_draw (lim : Nat → Prop) (sc : Nat × (Nat → Int)) : pvC
  | [.inr (.inr (.inl id)), .inl k, .inl n], z, Q => id = 60 ∧ (lim 60 ∧ (0 ≤ k ∧ k ≤ 200) ∧ 0 < n) ∧ Q (.inl (some (vI (dwS sc k % n)))) z
  | _, _, _ => False
def bL_draw : Nat → List (Instr × Nat)
  | 0 => [(.aload_n 0, 1), (.iload_n 1, 1), (.invokestatic 8, 3), (.iconst 1, 1), (.iushr, 1), (.iload_n 2, 1), (.irem, 1), (.ireturn, 1)]
  | _ => []
def uL_draw : Nat → Option (List Bool)
  | _ => none
def aL_draw (lim : Nat → Prop) (sc : Nat × (Nat → Int)) : pvCa
  | 8 => some (2, true, 0, 0, C_L_cell lim sc)
  | _ => none
theorem bL_draw_0 : bL_draw 0 = [(.aload_n 0, 1), (.iload_n 1, 1), (.invokestatic 8, 3), (.iconst 1, 1), (.iushr, 1), (.iload_n 2, 1), (.irem, 1), (.ireturn, 1)] := rfl
theorem uL_draw_0 : uL_draw 0 = none := rfl
theorem aL_draw_8 {lim : Nat → Prop} {sc : Nat × (Nat → Int)} : aL_draw lim sc 8 = some (2, true, 0, 0, C_L_cell lim sc) := rfl
def mL_draw : Room := { frames := 1, cells := 1, slots := 6, locals := 21 }
set_option maxRecDepth 100000 in
set_option maxHeartbeats 4000000 in
theorem okL_draw (lim : Nat → Prop) (sc : Nat × (Nat → Int)) : pvOkG lim sc fL (aL_draw lim sc) kL 1 0 (some .int) bL_draw uL_draw 3 (C_L_draw lim sc) := by
  intro Q SW hc as z h hS hz
  unfold C_L_draw at h
  split at h
  · rename_i id k n
    obtain ⟨rfl, ⟨hl, h1, h2⟩, h3⟩ := h
    refine ⟨Nat.le_of_ble_eq_true rfl, hc 20 _ _ _ _ _ fun _ _ _ => ?_⟩
    clear hc hS
    have hd := dwS_r sc k
    simp only [pvStG]
    simp only [C_L_cell, pvE_aload_n0, pvLA_s, pvLd, pvE_iload_n1, pvLI_s, pvE_invokestatic (Ex := fun _ => none) (h0 := rfl), pvC1_s, pvC2_s, pvAf_v, pvAf_x, pvPop, pvCs, pvCat, pvPush, aL_draw_8, pvE_iconst, pvE_iushr, pvE_iload_n2, pvE_irem, pvE_ireturn, bL_draw_0, uL_draw_0, pvRtG, pvRecv_r, pvUp_nl, pvUp_same, pvUp_ap, pvSt_ap, pvX_c, pvX_ms, pvX_mn, pvE_nil, pvEn_i, pvEn_r, pvEn_l, pvEn_0, pvEn_s, pvRt, pvRv, pvTh, pvKc, pvGo, pvTgt, Int.toNat_natCast, false_and, and_false, true_and, and_true, if_true, if_false, reduceIte, reduceCtorEq, forall_const, false_or, or_false, true_or, or_true, ne_eq, not_true_eq_false, not_false_eq_true, implies_true, false_implies, Nat.reduceAdd, Nat.reduceSub, Nat.reduceMul, Nat.reduceEqDiff, Nat.reduceLT, Nat.reduceLeDiff, Int.reduceAdd, Int.reduceSub, Int.reduceMul, Int.reduceNeg, Int.reduceToNat, Int.reduceLE, Int.reduceLT, Int.reduceEq, Int.reduceNe, and_self]
    unfold dwS at h3 hd
    (repeat' (first | with_reducible apply And.intro | intro _))
    all_goals first | omega | assumption
  · exact h.elim
/-- whether a value (9: undefined) is as a constraint has it -/
def hlF (kind num x : Int) : Bool := hdF kind num (if x = 9 then 5 else x)
def C_L_holds (lim : Nat → Prop) (sc : Nat × (Nat → Int)) : pvC
  | [.inl kind, .inl num, .inl x], z, Q => ((0 ≤ kind ∧ kind ≤ 6) ∧ (0 ≤ x ∧ x ≤ 4 ∨ x = 9)) ∧ Q (.inl (some (vI (if hlF kind num x then 1 else 0)))) z
  | _, _, _ => False
def bL_holds : Nat → List (Instr × Nat)
  | 0 => [(.iload_n 2, 1), (.bipush 9, 2), (.if_icmp .ne 14, 3), (.iload_n 0, 1), (.iconst 5, 1), (.if_icmp .ne 7, 3), (.iconst 1, 1), (.goto 4, 3)]
  | 15 => [(.iconst 0, 1)]
  | 16 => [(.ireturn, 1)]
  | 17 => [(.iload_n 0, 1), (.iconst 5, 1), (.if_icmp .ne 5, 3), (.iconst 0, 1), (.ireturn, 1)]
  | 24 => [(.iload_n 0, 1), (.bipush 6, 2), (.if_icmp .eq 52, 3), (.iload_n 0, 1), (.ifCond .ne 8, 3), (.iload_n 2, 1), (.iload_n 1, 1), (.if_icmp .lt 43, 3)]
  | 39 => [(.iload_n 0, 1), (.iconst 1, 1), (.if_icmp .ne 8, 3), (.iload_n 2, 1), (.iload_n 1, 1), (.if_icmp .le 33, 3)]
  | 49 => [(.iload_n 0, 1), (.iconst 2, 1), (.if_icmp .ne 8, 3), (.iload_n 2, 1), (.iload_n 1, 1), (.if_icmp .eq 23, 3)]
  | 59 => [(.iload_n 0, 1), (.iconst 3, 1), (.if_icmp .ne 8, 3), (.iload_n 2, 1), (.iload_n 1, 1), (.if_icmp .ge 13, 3)]
  | 69 => [(.iload_n 0, 1), (.iconst 4, 1), (.if_icmp .ne 12, 3), (.iload_n 2, 1), (.iload_n 1, 1), (.if_icmp .le 7, 3)]
  | 79 => [(.iconst 1, 1), (.goto 4, 3)]
  | 83 => [(.iconst 0, 1)]
  | 84 => [(.ireturn, 1)]
  | _ => []
def uL_holds : Nat → Option (List Bool)
  | _ => none
def aL_holds (lim : Nat → Prop) (sc : Nat × (Nat → Int)) : pvCa
  | _ => none
theorem bL_holds_0 : bL_holds 0 = [(.iload_n 2, 1), (.bipush 9, 2), (.if_icmp .ne 14, 3), (.iload_n 0, 1), (.iconst 5, 1), (.if_icmp .ne 7, 3), (.iconst 1, 1), (.goto 4, 3)] := rfl
theorem uL_holds_0 : uL_holds 0 = none := rfl
theorem bL_holds_15 : bL_holds 15 = [(.iconst 0, 1)] := rfl
theorem uL_holds_15 : uL_holds 15 = none := rfl
theorem bL_holds_16 : bL_holds 16 = [(.ireturn, 1)] := rfl
theorem uL_holds_16 : uL_holds 16 = none := rfl
theorem bL_holds_17 : bL_holds 17 = [(.iload_n 0, 1), (.iconst 5, 1), (.if_icmp .ne 5, 3), (.iconst 0, 1), (.ireturn, 1)] := rfl
theorem uL_holds_17 : uL_holds 17 = none := rfl
theorem bL_holds_24 : bL_holds 24 = [(.iload_n 0, 1), (.bipush 6, 2), (.if_icmp .eq 52, 3), (.iload_n 0, 1), (.ifCond .ne 8, 3), (.iload_n 2, 1), (.iload_n 1, 1), (.if_icmp .lt 43, 3)] := rfl
theorem uL_holds_24 : uL_holds 24 = none := rfl
theorem bL_holds_39 : bL_holds 39 = [(.iload_n 0, 1), (.iconst 1, 1), (.if_icmp .ne 8, 3), (.iload_n 2, 1), (.iload_n 1, 1), (.if_icmp .le 33, 3)] := rfl
theorem uL_holds_39 : uL_holds 39 = none := rfl
theorem bL_holds_49 : bL_holds 49 = [(.iload_n 0, 1), (.iconst 2, 1), (.if_icmp .ne 8, 3), (.iload_n 2, 1), (.iload_n 1, 1), (.if_icmp .eq 23, 3)] := rfl
theorem uL_holds_49 : uL_holds 49 = none := rfl
theorem bL_holds_59 : bL_holds 59 = [(.iload_n 0, 1), (.iconst 3, 1), (.if_icmp .ne 8, 3), (.iload_n 2, 1), (.iload_n 1, 1), (.if_icmp .ge 13, 3)] := rfl
theorem uL_holds_59 : uL_holds 59 = none := rfl
theorem bL_holds_69 : bL_holds 69 = [(.iload_n 0, 1), (.iconst 4, 1), (.if_icmp .ne 12, 3), (.iload_n 2, 1), (.iload_n 1, 1), (.if_icmp .le 7, 3)] := rfl
theorem uL_holds_69 : uL_holds 69 = none := rfl
theorem bL_holds_79 : bL_holds 79 = [(.iconst 1, 1), (.goto 4, 3)] := rfl
theorem uL_holds_79 : uL_holds 79 = none := rfl
theorem bL_holds_83 : bL_holds 83 = [(.iconst 0, 1)] := rfl
theorem uL_holds_83 : uL_holds 83 = none := rfl
theorem bL_holds_84 : bL_holds 84 = [(.ireturn, 1)] := rfl
theorem uL_holds_84 : uL_holds 84 = none := rfl
def mL_holds : Room := { frames := 0, cells := 1, slots := 6, locals := 0 }
set_option maxRecDepth 100000 in
set_option maxHeartbeats 4000000 in
theorem okL_holds (lim : Nat → Prop) (sc : Nat × (Nat → Int)) : pvOkG lim sc fL (aL_holds lim sc) kL 1 0 (some .boolean) bL_holds uL_holds 3 (C_L_holds lim sc) := by
  intro Q SW hc as z h hS hz
  unfold C_L_holds at h
  split at h
  · rename_i kind num x
    obtain ⟨⟨h1, h2⟩, h3⟩ := h
    refine ⟨Nat.le_of_ble_eq_true rfl, hc 20 _ _ _ _ _ fun _ _ _ => ?_⟩
    clear hc hS
    simp only [pvStG]
    simp only [pvE_iload_n2, pvLI_s, pvLd, pvE_bipush, pvE_icmp_ne, pvE_iload_n0, pvE_iconst, pvE_goto, pvE_ireturn, pvE_icmp_eq, pvE_if_ne, pvE_iload_n1, pvE_icmp_lt, pvE_icmp_le, pvE_icmp_ge, bL_holds_0, uL_holds_0, bL_holds_15, uL_holds_15, bL_holds_16, uL_holds_16, bL_holds_17, uL_holds_17, bL_holds_24, uL_holds_24, bL_holds_39, uL_holds_39, bL_holds_49, uL_holds_49, bL_holds_59, uL_holds_59, bL_holds_69, uL_holds_69, bL_holds_79, uL_holds_79, bL_holds_83, uL_holds_83, bL_holds_84, uL_holds_84, pvRtG, pvRecv_r, pvUp_nl, pvUp_same, pvUp_ap, pvSt_ap, pvX_c, pvX_ms, pvX_mn, pvE_nil, pvEn_i, pvEn_r, pvEn_l, pvEn_0, pvEn_s, pvRt, pvRv, pvTh, pvKc, pvGo, pvTgt, Int.toNat_natCast, false_and, and_false, true_and, and_true, if_true, if_false, reduceIte, reduceCtorEq, forall_const, false_or, or_false, true_or, or_true, ne_eq, not_true_eq_false, not_false_eq_true, implies_true, false_implies, Nat.reduceAdd, Nat.reduceSub, Nat.reduceMul, Nat.reduceEqDiff, Nat.reduceLT, Nat.reduceLeDiff, Int.reduceAdd, Int.reduceSub, Int.reduceMul, Int.reduceNeg, Int.reduceToNat, Int.reduceLE, Int.reduceLT, Int.reduceEq, Int.reduceNe, and_self]
    have key : ∀ k, (0 ≤ k ∧ k ≤ 6) → (hlF k num x = true ↔ (if x = 9 then k = 5 else k ≠ 5 ∧ (k = 6 ∨ (k = 0 ∧ x < num) ∨ (k = 1 ∧ x ≤ num) ∨ (k = 2 ∧ x = num) ∨ (k = 3 ∧ num ≤ x) ∨ (k = 4 ∧ num < x)))) := by
      intro k hk
      unfold hlF hdF
      rcases h2 with h2 | rfl
      · rw [if_neg (show ¬ x = 9 by omega), if_neg (show ¬ x = 9 by omega)]
        rcases (show k = 0 ∨ k = 1 ∨ k = 2 ∨ k = 3 ∨ k = 4 ∨ k = 5 ∨ k = 6 by omega) with rfl | rfl | rfl | rfl | rfl | rfl | rfl <;> simp <;> omega
      · rcases (show k = 0 ∨ k = 1 ∨ k = 2 ∨ k = 3 ∨ k = 4 ∨ k = 5 ∨ k = 6 by omega) with rfl | rfl | rfl | rfl | rfl | rfl | rfl <;> simp
    have key := key kind h1
    cases hb : hlF kind num x
    · rw [hb] at h3 key
      simp only [Bool.false_eq_true, if_false, false_iff] at h3 key
      clear hb
      (repeat' (first | with_reducible apply And.intro | intro _))
      all_goals first
        | assumption
        | omega
        | (exfalso; revert key; split <;> omega)
        | (simp; done)
    · rw [hb] at h3 key
      simp only [if_true, true_iff] at h3 key
      clear hb
      (repeat' (first | with_reducible apply And.intro | intro _))
      all_goals first
        | assumption
        | omega
        | (exfalso; revert key; split <;> omega)
        | (simp; done)
  · exact h.elim
/-- the value of a clock, back from the k-th event: s is the time since then -/
def vlK (d l : Nat → Int) (c : Int) : Nat → Int → Int
  | 0, _ => 9
  | k + 1, s => if l k = c then (if s < 4 then s else 4) else vlK d l c k (s + d k)
def vlF (d l : Nat → Int) (e : Nat) (c : Int) : Int := vlK d l c e (d e)
/-- a word's rows: delays and letters in order so far -/
def wrP (lim : Nat → Prop) (z : pvM) (dl lt : Nat) (n : Int) : Prop := (lim dl ∧ dl ≠ 60 ∧ lim lt ∧ lt ≠ 60 ∧ n ≤ pvAI dl ∧ n ≤ pvAI lt) ∧ WdF n (z.1 dl) (z.1 lt)
def C_L_value (lim : Nat → Prop) (sc : Nat × (Nat → Int)) : pvC
  | [.inr (.inr (.inl dl)), .inr (.inr (.inl lt)), .inl e, .inl c], z, Q => (∃ n, wrP lim z dl lt n ∧ 0 ≤ e ∧ e < n) ∧ Q (.inl (some (vI (vlF (z.1 dl) (z.1 lt) e.toNat c)))) z
  | _, _, _ => False
def bL_value : Nat → List (Instr × Nat)
  | 0 => [(.aload_n 0, 1), (.iload_n 2, 1), (.iaload, 1), (.istore 4, 2), (.iload_n 2, 1), (.iconst 1, 1), (.isub, 1), (.istore 5, 2)]
  | 10 => [(.iload 5, 2), (.ifCond .lt 33, 3), (.aload_n 1, 1), (.iload 5, 2), (.iaload, 1), (.iload_n 3, 1), (.if_icmp .ne 10, 3), (.iconst 4, 1), (.iload 4, 2), (.invokestatic 84, 3), (.ireturn, 1)]
  | 30 => [(.iload 4, 2), (.aload_n 0, 1), (.iload 5, 2), (.iaload, 1), (.iadd, 1), (.istore 4, 2), (.iinc 5 (-1), 3), (.goto (-32), 3)]
  | 45 => [(.bipush 9, 2), (.ireturn, 1)]
  | _ => []
def uL_value : Nat → Option (List Bool)
  | 10 => some [true, true, false, true, true, true]
  | _ => none
def aL_value (lim : Nat → Prop) (sc : Nat × (Nat → Int)) : pvCa
  | 84 => some (2, true, 0, 0, C_J9_min_7cf53)
  | _ => none
theorem bL_value_0 : bL_value 0 = [(.aload_n 0, 1), (.iload_n 2, 1), (.iaload, 1), (.istore 4, 2), (.iload_n 2, 1), (.iconst 1, 1), (.isub, 1), (.istore 5, 2)] := rfl
theorem uL_value_0 : uL_value 0 = none := rfl
theorem bL_value_10 : bL_value 10 = [(.iload 5, 2), (.ifCond .lt 33, 3), (.aload_n 1, 1), (.iload 5, 2), (.iaload, 1), (.iload_n 3, 1), (.if_icmp .ne 10, 3), (.iconst 4, 1), (.iload 4, 2), (.invokestatic 84, 3), (.ireturn, 1)] := rfl
theorem uL_value_10 : uL_value 10 = some [true, true, false, true, true, true] := rfl
theorem bL_value_30 : bL_value 30 = [(.iload 4, 2), (.aload_n 0, 1), (.iload 5, 2), (.iaload, 1), (.iadd, 1), (.istore 4, 2), (.iinc 5 (-1), 3), (.goto (-32), 3)] := rfl
theorem uL_value_30 : uL_value 30 = none := rfl
theorem bL_value_45 : bL_value 45 = [(.bipush 9, 2), (.ireturn, 1)] := rfl
theorem uL_value_45 : uL_value 45 = none := rfl
theorem aL_value_84 {lim : Nat → Prop} {sc : Nat × (Nat → Int)} : aL_value lim sc 84 = some (2, true, 0, 0, C_J9_min_7cf53) := rfl
def mL_value : Room := { frames := 1, cells := 1, slots := 6, locals := 21 }
set_option maxRecDepth 100000 in
set_option maxHeartbeats 4000000 in
theorem okL_value (lim : Nat → Prop) (sc : Nat × (Nat → Int)) : pvOkG lim sc fL (aL_value lim sc) kL 1 0 (some .int) bL_value uL_value 6 (C_L_value lim sc) := by
  intro Q SW hc as z h hS hz
  unfold C_L_value at h
  split at h
  · rename_i dl lt e c
    obtain ⟨⟨n, ⟨⟨l1, l2, l3, l4, l5, l6⟩, hw⟩, h1, h2⟩, h3⟩ := h
    have loop : ∀ (k : Nat) (s : Int), (k : Int) < n → 0 ≤ s → s ≤ 100 - 4 * k → vlK (z.1 dl) (z.1 lt) c k s = vlF (z.1 dl) (z.1 lt) e.toNat c → SW 10 [some (vR dl), some (vR lt), none, some (vI c), some (vI s), some (vI ((k : Int) - 1))] [] z 0 := by
      intro k
      induction k with
      | zero =>
        intro s hk hs hs2 hv
        refine hc 20 _ _ _ _ _ fun _ _ _ => ?_
        clear hc hS hz
        simp only [pvStG]
        simp only [C_J9_min_7cf53, pvE_aload_n0, pvLA_s, pvLd, pvE_iload_n2, pvLI_s, pvE_iaload, pvE_istore, pvS1, List.length_cons, List.length_nil, pvClr_i, pvClr_r, pvClr_l, pvClr_d, pvClr_f, pvClr_n, pvE_iconst, pvE_isub, pvE_iload, pvE_if_lt, pvE_aload_n1, pvE_iload_n3, pvE_icmp_ne, pvE_invokestatic (Ex := fun _ => none) (h0 := rfl), pvC1_s, pvC2_s, pvAf_v, pvAf_x, pvPop, pvCs, pvCat, pvPush, aL_value_84, pvE_ireturn, pvE_iadd, pvE_iinc, pvIc_s, pvE_goto, pvE_bipush, bL_value_0, uL_value_0, bL_value_10, uL_value_10, bL_value_30, uL_value_30, bL_value_45, uL_value_45, pvMk_t, pvMk_f, pvMk_n, pvRtG, pvRecv_r, pvUp_nl, pvUp_same, pvUp_ap, pvSt_ap, pvX_c, pvX_ms, pvX_mn, pvE_nil, pvEn_i, pvEn_r, pvEn_l, pvEn_0, pvEn_s, pvRt, pvRv, pvTh, pvKc, pvGo, pvTgt, Int.toNat_natCast, false_and, and_false, true_and, and_true, if_true, if_false, reduceIte, reduceCtorEq, forall_const, false_or, or_false, true_or, or_true, ne_eq, not_true_eq_false, not_false_eq_true, implies_true, false_implies, Nat.reduceAdd, Nat.reduceSub, Nat.reduceMul, Nat.reduceEqDiff, Nat.reduceLT, Nat.reduceLeDiff, Int.reduceAdd, Int.reduceSub, Int.reduceMul, Int.reduceNeg, Int.reduceToNat, Int.reduceLE, Int.reduceLT, Int.reduceEq, Int.reduceNe, and_self]
        have e9 : vlK (z.1 dl) (z.1 lt) c 0 s = 9 := rfl
        rw [e9] at hv
        rw [← hv] at h3
        grind
      | succ k ih =>
        intro s hk hs hs2 hv
        have hd := hw.2 k (by omega)
        have hn := hw.1
        refine hc 20 _ _ _ _ _ fun _ _ _ => ?_
        clear hc hS hz
        simp only [pvStG]
        have ek : ((k + 1 : Nat) : Int) - 1 = (k : Int) := by omega
        rw [ek]
        simp only [C_J9_min_7cf53, pvE_aload_n0, pvLA_s, pvLd, pvE_iload_n2, pvLI_s, pvE_iaload, pvE_istore, pvS1, List.length_cons, List.length_nil, pvClr_i, pvClr_r, pvClr_l, pvClr_d, pvClr_f, pvClr_n, pvE_iconst, pvE_isub, pvE_iload, pvE_if_lt, pvE_aload_n1, pvE_iload_n3, pvE_icmp_ne, pvE_invokestatic (Ex := fun _ => none) (h0 := rfl), pvC1_s, pvC2_s, pvAf_v, pvAf_x, pvPop, pvCs, pvCat, pvPush, aL_value_84, pvE_ireturn, pvE_iadd, pvE_iinc, pvIc_s, pvE_goto, pvE_bipush, bL_value_0, uL_value_0, bL_value_10, uL_value_10, bL_value_30, uL_value_30, bL_value_45, uL_value_45, pvMk_t, pvMk_f, pvMk_n, pvRtG, pvRecv_r, pvUp_nl, pvUp_same, pvUp_ap, pvSt_ap, pvX_c, pvX_ms, pvX_mn, pvE_nil, pvEn_i, pvEn_r, pvEn_l, pvEn_0, pvEn_s, pvRt, pvRv, pvTh, pvKc, pvGo, pvTgt, Int.toNat_natCast, false_and, and_false, true_and, and_true, if_true, if_false, reduceIte, reduceCtorEq, forall_const, false_or, or_false, true_or, or_true, ne_eq, not_true_eq_false, not_false_eq_true, implies_true, false_implies, Nat.reduceAdd, Nat.reduceSub, Nat.reduceMul, Nat.reduceEqDiff, Nat.reduceLT, Nat.reduceLeDiff, Int.reduceAdd, Int.reduceSub, Int.reduceMul, Int.reduceNeg, Int.reduceToNat, Int.reduceLE, Int.reduceLT, Int.reduceEq, Int.reduceNe, and_self]
        simp only [vlK] at hv
        by_cases hl : z.1 lt k = c
        · rw [if_pos hl] at hv
          rw [← hv] at h3
          (repeat' (first | with_reducible apply And.intro | intro _))
          all_goals first
            | omega
            | assumption
            | grind
        · rw [if_neg hl] at hv
          have q := ih (s + z.1 dl k) (by omega) (by omega) (by omega) hv
          have e5 : (k : Int) + (-1) = (k : Int) - 1 := by omega
          (repeat' (first | with_reducible apply And.intro | intro _))
          all_goals first
            | omega
            | assumption
            | (rw [e5]; exact q)
            | grind
    refine ⟨Nat.le_of_ble_eq_true rfl, hc 20 _ _ _ _ _ fun _ _ _ => ?_⟩
    have hd := hw.2 e.toNat (by omega)
    have hn := hw.1
    simp only [pvStG]
    simp only [pvE_aload_n0, pvLA_s, pvLd, pvE_iload_n2, pvLI_s, pvE_iaload, pvE_istore, pvS1, List.length_cons, List.length_nil, pvClr_i, pvClr_r, pvClr_l, pvClr_d, pvClr_f, pvClr_n, pvE_iconst, pvE_isub, pvE_iload, pvE_if_lt, pvE_aload_n1, pvE_iload_n3, pvE_icmp_ne, pvE_invokestatic (Ex := fun _ => none) (h0 := rfl), pvC1_s, pvC2_s, pvAf_v, pvAf_x, pvPop, pvCs, pvCat, pvPush, aL_value_84, pvE_ireturn, pvE_iadd, pvE_iinc, pvIc_s, pvE_goto, pvE_bipush, bL_value_0, uL_value_0, bL_value_10, uL_value_10, bL_value_30, uL_value_30, bL_value_45, uL_value_45, pvMk_t, pvMk_f, pvMk_n, pvRtG, pvRecv_r, pvUp_nl, pvUp_same, pvUp_ap, pvSt_ap, pvX_c, pvX_ms, pvX_mn, pvE_nil, pvEn_i, pvEn_r, pvEn_l, pvEn_0, pvEn_s, pvRt, pvRv, pvTh, pvKc, pvGo, pvTgt, Int.toNat_natCast, false_and, and_false, true_and, and_true, if_true, if_false, reduceIte, reduceCtorEq, forall_const, false_or, or_false, true_or, or_true, ne_eq, not_true_eq_false, not_false_eq_true, implies_true, false_implies, Nat.reduceAdd, Nat.reduceSub, Nat.reduceMul, Nat.reduceEqDiff, Nat.reduceLT, Nat.reduceLeDiff, Int.reduceAdd, Int.reduceSub, Int.reduceMul, Int.reduceNeg, Int.reduceToNat, Int.reduceLE, Int.reduceLT, Int.reduceEq, Int.reduceNe, and_self]
    have q := loop e.toNat (z.1 dl e.toNat) (by omega) (by omega) (by omega) rfl
    have e5 : ((e.toNat : Nat) : Int) - 1 = e - 1 := by omega
    rw [e5] at q
    (repeat' (first | with_reducible apply And.intro | intro _))
    all_goals first
      | omega
      | assumption
      | exact q
      | grind
  · exact h.elim
