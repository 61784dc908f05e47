def kdF (ch : Nat → Int) (c k : Int) (q : Nat) : Bool × Int × Int × Int × Nat := if 48 ≤ ch q ∧ ch q ≤ 51 then (true, c, k, ch q - 48, q + 1) else (false, 0, 0, 0, q)
/-- a constraint at p: is it one, its clock, kind, number, the place behind it or of the fault -/
def kcF (ch : Nat → Int) (p : Nat) : Bool × Int × Int × Int × Nat :=
  if ¬ (97 ≤ ch p ∧ ch p ≤ 99) then (false, 0, 0, 0, p)
  else if ch (p + 1) = 63 then (true, ch p - 97, 5, 0, p + 2)
  else if ch (p + 1) = 33 then (true, ch p - 97, 6, 0, p + 2)
  else if ch (p + 1) = 61 then kdF ch (ch p - 97) 2 (p + 2)
  else if ch (p + 1) = 60 then (if ch (p + 2) = 61 then kdF ch (ch p - 97) 1 (p + 3) else kdF ch (ch p - 97) 0 (p + 2))
  else if ch (p + 1) = 62 then (if ch (p + 2) = 61 then kdF ch (ch p - 97) 3 (p + 3) else kdF ch (ch p - 97) 4 (p + 2))
  else (false, 0, 0, 0, p + 1)
/-- the character at a place, behind the end 0 -/
def chF (t : Nat → Int) (n : Int) : Nat → Int := fun i => if (i : Int) < n then t i else 0
theorem chF_eq {t : Nat → Int} {n a : Int} (h : 0 ≤ a) : (if a < n then t a.toNat else 0) = chF t n a.toNat := by
  unfold chF
  rw [show ((a.toNat : Nat) : Int) = a by omega]
theorem chF_r {t : Nat → Int} {n : Int} (h : ∀ k : Nat, (k : Int) < n → 0 ≤ t k ∧ t k ≤ 126) (p : Nat) : 0 ≤ chF t n p ∧ chF t n p ≤ 126 := by
  unfold chF
  split
  · exact h p (by assumption)
  · omega
def gdI (f : Nat → Int) (k : Int) (a b c : Int) : Nat → Int := fun j => if j = (3 * k + 2).toNat then c else if j = (3 * k + 1).toNat then b else if j = (3 * k).toNat then a else f j
theorem gdI_eq {f : Nat → Nat → Int} {k a b c : Int} : pvUp (pvUp (pvUp f 19 (3 * k).toNat a) 19 (3 * k + 1).toNat b) 19 (3 * k + 2).toNat c = pvSt f 19 (gdI (f 19) k a b c) := by
  have e := pvUp_st (f := f) (i := 19) (k := (3 * k).toNat) (g := f 19) (v := a)
  rw [pvSt_self] at e
  rw [e, pvUp_st, pvUp_st]
  rfl
def C_X1_readConstraint : pvC
  | [.inr (.inr (.inl id)), .inl a], z, Q => id = 17 ∧ ((0 ≤ z.1 17 1 ∧ z.1 17 1 ≤ 30) ∧ (0 ≤ z.1 17 3 ∧ z.1 17 3 ≤ 3) ∧ (0 ≤ a ∧ a ≤ 100) ∧ ∀ k : Nat, (k : Int) < z.1 17 1 → 0 ≤ z.1 18 k ∧ z.1 18 k ≤ 126) ∧
      ((kcF (chF (z.1 18) (z.1 17 1)) a.toNat).1 = true → Q (.inl (some (vI (kcF (chF (z.1 18) (z.1 17 1)) a.toNat).2.2.2.2))) (pvUp (pvSt z.1 19 (gdI (z.1 19) (z.1 17 3) (kcF (chF (z.1 18) (z.1 17 1)) a.toNat).2.1 (kcF (chF (z.1 18) (z.1 17 1)) a.toNat).2.2.1 (kcF (chF (z.1 18) (z.1 17 1)) a.toNat).2.2.2.1)) 17 3 (z.1 17 3 + 1), z.2)) ∧
      ((kcF (chF (z.1 18) (z.1 17 1)) a.toNat).1 = false → Q (.inl (some (vI (kcF (chF (z.1 18) (z.1 17 1)) a.toNat).2.2.2.2))) (pvUp z.1 17 4 (kcF (chF (z.1 18) (z.1 17 1)) a.toNat).2.2.2.2, z.2))
  | _, _, _ => False
def bX1_readConstraint : Nat → List (Instr × Nat)
  | 0 => [(.aload_n 0, 1), (.iload_n 1, 1), (.invokevirtual 36, 3), (.bipush 97, 2), (.isub, 1), (.istore_n 2, 1), (.iload_n 2, 1), (.iconst 3, 1), (.invokestatic 28, 3), (.ifCond .ne 9, 3), (.aload_n 0, 1), (.iload_n 1, 1), (.invokevirtual 39, 3), (.ireturn, 1)]
  | 23 => [(.aload_n 0, 1), (.iload_n 1, 1), (.iconst 1, 1), (.iadd, 1), (.invokevirtual 36, 3), (.istore_n 3, 1), (.iload_n 3, 1), (.bipush 63, 2), (.if_icmp .eq 9, 3), (.iload_n 3, 1), (.bipush 33, 2), (.if_icmp .ne 25, 3)]
  | 43 => [(.aload_n 0, 1), (.iload_n 2, 1), (.iload_n 3, 1), (.bipush 63, 2), (.if_icmp .ne 7, 3), (.iconst 5, 1), (.goto 5, 3)]
  | 55 => [(.bipush 6, 2)]
  | 57 => [(.iconst 0, 1), (.invokevirtual 42, 3), (.iload_n 1, 1), (.iconst 2, 1), (.iadd, 1), (.ireturn, 1)]
  | 65 => [(.iload_n 3, 1), (.bipush 60, 2), (.if_icmp .eq 23, 3), (.iload_n 3, 1), (.bipush 61, 2), (.if_icmp .eq 17, 3), (.iload_n 3, 1), (.bipush 62, 2), (.if_icmp .eq 11, 3), (.aload_n 0, 1), (.iload_n 1, 1), (.iconst 1, 1), (.iadd, 1), (.invokevirtual 39, 3), (.ireturn, 1)]
  | 91 => [(.iload_n 3, 1), (.bipush 61, 2), (.if_icmp .eq 19, 3), (.aload_n 0, 1), (.iload_n 1, 1), (.iconst 2, 1), (.iadd, 1), (.invokevirtual 36, 3), (.bipush 61, 2), (.if_icmp .ne 7, 3), (.iconst 1, 1), (.goto 4, 3)]
  | 113 => [(.iconst 0, 1)]
  | 114 => [(.istore 4, 2), (.iload 4, 2), (.ifCond .eq 9, 3), (.iload_n 1, 1), (.iconst 3, 1), (.iadd, 1), (.goto 6, 3)]
  | 127 => [(.iload_n 1, 1), (.iconst 2, 1), (.iadd, 1)]
  | 130 => [(.istore 5, 2), (.aload_n 0, 1), (.iload 5, 2), (.invokevirtual 36, 3), (.bipush 48, 2), (.isub, 1), (.istore 6, 2), (.iload 6, 2), (.iconst 0, 1), (.iconst 3, 1), (.invokestatic 46, 3), (.ifCond .ne 10, 3), (.aload_n 0, 1), (.iload 5, 2), (.invokevirtual 39, 3), (.ireturn, 1)]
  | 160 => [(.aload_n 0, 1), (.iload_n 2, 1), (.iload_n 3, 1), (.iload 4, 2), (.invokestatic 50, 3), (.iload 6, 2), (.invokevirtual 42, 3), (.iload 5, 2), (.iconst 1, 1), (.iadd, 1), (.ireturn, 1)]
  | _ => []
def uX1_readConstraint : Nat → Option (List Bool)
  | _ => none
def aX1_readConstraint : pvCa
  | 28 => some (2, true, 0, 0, C_X9_isIndex)
  | 36 => some (2, false, 1, 0, C_X1_characterAt)
  | 39 => some (2, false, 1, 0, C_X1_stopAt)
  | 42 => some (4, false, 1, 0, C_X1_addConstraint)
  | 46 => some (3, true, 0, 0, C_X9_isBetween)
  | 50 => some (2, true, 0, 0, C_X1_comparison)
  | _ => none
theorem bX1_readConstraint_0 : bX1_readConstraint 0 = [(.aload_n 0, 1), (.iload_n 1, 1), (.invokevirtual 36, 3), (.bipush 97, 2), (.isub, 1), (.istore_n 2, 1), (.iload_n 2, 1), (.iconst 3, 1), (.invokestatic 28, 3), (.ifCond .ne 9, 3), (.aload_n 0, 1), (.iload_n 1, 1), (.invokevirtual 39, 3), (.ireturn, 1)] := rfl
theorem uX1_readConstraint_0 : uX1_readConstraint 0 = none := rfl
theorem bX1_readConstraint_23 : bX1_readConstraint 23 = [(.aload_n 0, 1), (.iload_n 1, 1), (.iconst 1, 1), (.iadd, 1), (.invokevirtual 36, 3), (.istore_n 3, 1), (.iload_n 3, 1), (.bipush 63, 2), (.if_icmp .eq 9, 3), (.iload_n 3, 1), (.bipush 33, 2), (.if_icmp .ne 25, 3)] := rfl
theorem uX1_readConstraint_23 : uX1_readConstraint 23 = none := rfl
theorem bX1_readConstraint_43 : bX1_readConstraint 43 = [(.aload_n 0, 1), (.iload_n 2, 1), (.iload_n 3, 1), (.bipush 63, 2), (.if_icmp .ne 7, 3), (.iconst 5, 1), (.goto 5, 3)] := rfl
theorem uX1_readConstraint_43 : uX1_readConstraint 43 = none := rfl
theorem bX1_readConstraint_55 : bX1_readConstraint 55 = [(.bipush 6, 2)] := rfl
theorem uX1_readConstraint_55 : uX1_readConstraint 55 = none := rfl
theorem bX1_readConstraint_57 : bX1_readConstraint 57 = [(.iconst 0, 1), (.invokevirtual 42, 3), (.iload_n 1, 1), (.iconst 2, 1), (.iadd, 1), (.ireturn, 1)] := rfl
theorem uX1_readConstraint_57 : uX1_readConstraint 57 = none := rfl
theorem bX1_readConstraint_65 : bX1_readConstraint 65 = [(.iload_n 3, 1), (.bipush 60, 2), (.if_icmp .eq 23, 3), (.iload_n 3, 1), (.bipush 61, 2), (.if_icmp .eq 17, 3), (.iload_n 3, 1), (.bipush 62, 2), (.if_icmp .eq 11, 3), (.aload_n 0, 1), (.iload_n 1, 1), (.iconst 1, 1), (.iadd, 1), (.invokevirtual 39, 3), (.ireturn, 1)] := rfl
theorem uX1_readConstraint_65 : uX1_readConstraint 65 = none := rfl
theorem bX1_readConstraint_91 : bX1_readConstraint 91 = [(.iload_n 3, 1), (.bipush 61, 2), (.if_icmp .eq 19, 3), (.aload_n 0, 1), (.iload_n 1, 1), (.iconst 2, 1), (.iadd, 1), (.invokevirtual 36, 3), (.bipush 61, 2), (.if_icmp .ne 7, 3), (.iconst 1, 1), (.goto 4, 3)] := rfl
theorem uX1_readConstraint_91 : uX1_readConstraint 91 = none := rfl
theorem bX1_readConstraint_113 : bX1_readConstraint 113 = [(.iconst 0, 1)] := rfl
theorem uX1_readConstraint_113 : uX1_readConstraint 113 = none := rfl
theorem bX1_readConstraint_114 : bX1_readConstraint 114 = [(.istore 4, 2), (.iload 4, 2), (.ifCond .eq 9, 3), (.iload_n 1, 1), (.iconst 3, 1), (.iadd, 1), (.goto 6, 3)] := rfl
theorem uX1_readConstraint_114 : uX1_readConstraint 114 = none := rfl
theorem bX1_readConstraint_127 : bX1_readConstraint 127 = [(.iload_n 1, 1), (.iconst 2, 1), (.iadd, 1)] := rfl
theorem uX1_readConstraint_127 : uX1_readConstraint 127 = none := rfl
theorem bX1_readConstraint_130 : bX1_readConstraint 130 = [(.istore 5, 2), (.aload_n 0, 1), (.iload 5, 2), (.invokevirtual 36, 3), (.bipush 48, 2), (.isub, 1), (.istore 6, 2), (.iload 6, 2), (.iconst 0, 1), (.iconst 3, 1), (.invokestatic 46, 3), (.ifCond .ne 10, 3), (.aload_n 0, 1), (.iload 5, 2), (.invokevirtual 39, 3), (.ireturn, 1)] := rfl
theorem uX1_readConstraint_130 : uX1_readConstraint 130 = none := rfl
theorem bX1_readConstraint_160 : bX1_readConstraint 160 = [(.aload_n 0, 1), (.iload_n 2, 1), (.iload_n 3, 1), (.iload 4, 2), (.invokestatic 50, 3), (.iload 6, 2), (.invokevirtual 42, 3), (.iload 5, 2), (.iconst 1, 1), (.iadd, 1), (.ireturn, 1)] := rfl
theorem uX1_readConstraint_160 : uX1_readConstraint 160 = none := rfl
theorem aX1_readConstraint_28 : aX1_readConstraint 28 = some (2, true, 0, 0, C_X9_isIndex) := rfl
theorem aX1_readConstraint_36 : aX1_readConstraint 36 = some (2, false, 1, 0, C_X1_characterAt) := rfl
theorem aX1_readConstraint_39 : aX1_readConstraint 39 = some (2, false, 1, 0, C_X1_stopAt) := rfl
theorem aX1_readConstraint_42 : aX1_readConstraint 42 = some (4, false, 1, 0, C_X1_addConstraint) := rfl
theorem aX1_readConstraint_46 : aX1_readConstraint 46 = some (3, true, 0, 0, C_X9_isBetween) := rfl
theorem aX1_readConstraint_50 : aX1_readConstraint 50 = some (2, true, 0, 0, C_X1_comparison) := rfl
set_option maxRecDepth 100000 in
set_option maxHeartbeats 4000000 in
theorem okX1_readConstraint : pvOkM fX1 aX1_readConstraint kX1 eX1 (some .int) bX1_readConstraint uX1_readConstraint 7 C_X1_readConstraint := by
  intro Q SW hc as z h hS hz
  unfold C_X1_readConstraint at h
  split at h
  · rename_i id a
    obtain ⟨rfl, ⟨hl, hk, ha, hx⟩, h1, h2⟩ := h
    obtain ⟨a, rfl⟩ : ∃ n : Nat, a = n := ⟨a.toNat, by omega⟩
    rw [Int.toNat_natCast] at h1 h2
    have e0 := chF_eq (t := z.1 18) (n := z.1 17 1) (a := (a : Int)) (by omega)
    have e1 := chF_eq (t := z.1 18) (n := z.1 17 1) (a := (a : Int) + 1) (by omega)
    have e2 := chF_eq (t := z.1 18) (n := z.1 17 1) (a := (a : Int) + 2) (by omega)
    have e3 := chF_eq (t := z.1 18) (n := z.1 17 1) (a := (a : Int) + 3) (by omega)
    rw [show ((a : Int) + 1).toNat = a + 1 by omega] at e1
    rw [show ((a : Int) + 2).toNat = a + 2 by omega] at e2
    rw [show ((a : Int) + 3).toNat = a + 3 by omega] at e3
    rw [Int.toNat_natCast] at e0
    have r0 := chF_r hx a
    have r1 := chF_r hx (a + 1)
    have r2 := chF_r hx (a + 2)
    have r3 := chF_r hx (a + 3)
    have n1 : ((a : Int) + 1).toNat = a + 1 := by omega
    have n2 : ((a : Int) + 2).toNat = a + 2 := by omega
    have n3 : ((a : Int) + 3).toNat = a + 3 := by omega
    refine ⟨Nat.le_of_ble_eq_true rfl, hc 20 _ _ _ fun _ _ => ?_⟩
    clear hc hS
    simp only [pvSt1]
    simp only [C_X1_characterAt, C_X9_isIndex, C_X1_stopAt, C_X1_addConstraint, C_X9_isBetween, C_X1_comparison, n1, n2, n3, e0, e1, e2, e3, gdI_eq, pvE_aload_n0, pvLA_s, pvLd, pvE_iload_n1, pvLI_s, pvE_invokevirtual, pvC1_s, pvC2_s, pvAf_v, pvAf_x, pvPop, pvCs, pvCat, pvPush, aX1_readConstraint_36, pvSh_0, pvSh_1, pvSh_2, pvSh_3, pvSh_4, pvSh_5, pvSh_6, pvSh_7, pvSh_8, pvSh_9, pvSh_10, pvSh_11, pvSh_12, pvSh_13, pvSh_14, pvSh_15, pvSh_16, pvSh_17, pvSh_18, pvSh_19, pvSh_20, pvSh_21, pvSh_22, pvSh_23, pvSh_24, pvSh_25, pvSh_26, pvSh_27, pvSh_28, pvSh_29, pvSh_30, pvSh_31, pvSh_32, pvSh_33, pvSh_34, pvSh_35, pvSh_36, pvSh_37, pvSh_38, pvE_bipush, pvE_isub, pvE_istore_n2, pvS1, List.length_cons, List.length_nil, pvClr_i, pvClr_r, pvClr_l, pvClr_d, pvClr_f, pvClr_n, pvE_iload_n2, pvE_iconst, pvE_invokestatic (h0 := eX1_28), aX1_readConstraint_28, pvE_if_ne, aX1_readConstraint_39, pvE_ireturn, pvE_iadd, pvE_istore_n3, pvE_iload_n3, pvE_icmp_eq, pvE_icmp_ne, pvE_goto, aX1_readConstraint_42, pvE_istore, pvE_iload, pvE_if_eq, pvE_invokestatic (h0 := eX1_46), aX1_readConstraint_46, pvE_invokestatic (h0 := eX1_50), aX1_readConstraint_50, bX1_readConstraint_0, uX1_readConstraint_0, bX1_readConstraint_23, uX1_readConstraint_23, bX1_readConstraint_43, uX1_readConstraint_43, bX1_readConstraint_55, uX1_readConstraint_55, bX1_readConstraint_57, uX1_readConstraint_57, bX1_readConstraint_65, uX1_readConstraint_65, bX1_readConstraint_91, uX1_readConstraint_91, bX1_readConstraint_113, uX1_readConstraint_113, bX1_readConstraint_114, uX1_readConstraint_114, bX1_readConstraint_127, uX1_readConstraint_127, bX1_readConstraint_130, uX1_readConstraint_130, bX1_readConstraint_160, uX1_readConstraint_160, pvRtG, pvRecv_r, pvUp_nl, pvUp_same, pvUp_ap, pvSt_ap, pvX_c, pvX_ms, pvX_mn, pvE_nil, pvEn_i, pvEn_r, pvEn_l, pvEn_0, pvEn_s, pvRt, pvRv, pvTh, pvKc, pvGo, pvTgt, Int.toNat_natCast, false_and, and_false, true_and, and_true, if_true, if_false, reduceIte, reduceCtorEq, forall_const, false_or, or_false, true_or, or_true, ne_eq, not_true_eq_false, not_false_eq_true, implies_true, false_implies, Nat.reduceAdd, Nat.reduceSub, Nat.reduceMul, Nat.reduceEqDiff, Nat.reduceLT, Nat.reduceLeDiff, Int.reduceAdd, Int.reduceSub, Int.reduceMul, Int.reduceNeg, Int.reduceToNat, Int.reduceLE, Int.reduceLT, Int.reduceEq, Int.reduceNe, and_self]
    unfold kcF kdF at h1 h2
    revert h1 h2
    generalize chF (z.1 18) (z.1 17 1) a = c0 at *
    generalize chF (z.1 18) (z.1 17 1) (a + 1) = c1 at *
    generalize chF (z.1 18) (z.1 17 1) (a + 2) = c2 at *
    generalize chF (z.1 18) (z.1 17 1) (a + 3) = c3 at *
    clear hx e0 e1 e2 e3
    intro h1 h2
    (repeat' split at h1) <;> simp (disch := omega) only [if_pos, if_neg] at h2 <;> simp only [forall_const, reduceCtorEq, false_implies, Int.natCast_add, Int.cast_ofNat_Int] at h1 h2
    all_goals
      (repeat' (first | with_reducible apply And.intro | intro _))
      all_goals first
        | omega
        | assumption
        | (simp (disch := omega) only [if_pos, if_neg]; assumption)
  · exact h.elim

