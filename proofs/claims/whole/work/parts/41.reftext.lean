/-! the reference: the text, read -/
/-- a sign at p: its kind, the place behind it -/
def khF (ch : Nat → Int) (p : Nat) : Int × Nat :=
  if ch p = 63 then (5, p + 1) else if ch p = 33 then (6, p + 1) else if ch p = 61 then (2, p + 1)
  else if ch p = 60 then (if ch (p + 1) = 61 then (1, p + 2) else (0, p + 1))
  else if ch p = 62 then (if ch (p + 1) = 61 then (3, p + 2) else (4, p + 1)) else (-1, p)
theorem kcF_kh (ch : Nat → Int) (p : Nat) : kcF ch p = if ¬ (97 ≤ ch p ∧ ch p ≤ 99) then (false, 0, 0, 0, p) else if (khF ch (p + 1)).1 < 0 then (false, 0, 0, 0, p + 1) else if 5 ≤ (khF ch (p + 1)).1 then (true, ch p - 97, (khF ch (p + 1)).1, 0, p + 2) else kdF ch (ch p - 97) (khF ch (p + 1)).1 (khF ch (p + 1)).2 := by
  unfold kcF khF
  (repeat' split) <;> first | rfl | omega | (simp at *; done) | (simp at *; omega)
theorem khF_r (ch : Nat → Int) (p : Nat) : (-1 ≤ (khF ch p).1 ∧ (khF ch p).1 ≤ 6) ∧ p ≤ (khF ch p).2 ∧ (khF ch p).2 ≤ p + 2 ∧ ((khF ch p).1 < 0 → (khF ch p).2 = p) ∧ (5 ≤ (khF ch p).1 → (khF ch p).2 = p + 1) := by
  unfold khF
  (repeat' split) <;> simp
def C_X10_kindHere : pvC
  | [.inr (.inr (.inl id))], z, Q => id = 39 ∧ ((0 ≤ z.1 39 11 ∧ z.1 39 11 ≤ 20) ∧ (0 ≤ z.1 39 10 ∧ z.1 39 10 ≤ 30)) ∧
      Q (.inl (some (vI (khF (chF (z.1 45) (z.1 39 10)) (z.1 39 11).toNat).1))) (pvUp z.1 39 11 (khF (chF (z.1 45) (z.1 39 10)) (z.1 39 11).toNat).2, z.2)
  | _, _, _ => False
def bX10_kindHere : Nat → List (Instr × Nat)
  | 0 => [(.aload_n 0, 1), (.bipush 63, 2), (.invokevirtual 108, 3), (.ifCond .eq 5, 3), (.iconst 5, 1), (.ireturn, 1)]
  | 11 => [(.aload_n 0, 1), (.bipush 33, 2), (.invokevirtual 108, 3), (.ifCond .eq 6, 3), (.bipush 6, 2), (.ireturn, 1)]
  | 23 => [(.aload_n 0, 1), (.bipush 61, 2), (.invokevirtual 108, 3), (.ifCond .eq 5, 3), (.iconst 2, 1), (.ireturn, 1)]
  | 34 => [(.aload_n 0, 1), (.bipush 60, 2), (.invokevirtual 108, 3), (.ifCond .eq 18, 3), (.aload_n 0, 1), (.bipush 61, 2), (.invokevirtual 108, 3), (.ifCond .eq 7, 3), (.iconst 1, 1), (.goto 4, 3)]
  | 56 => [(.iconst 0, 1)]
  | 57 => [(.ireturn, 1)]
  | 58 => [(.aload_n 0, 1), (.bipush 62, 2), (.invokevirtual 108, 3), (.ifCond .eq 18, 3), (.aload_n 0, 1), (.bipush 61, 2), (.invokevirtual 108, 3), (.ifCond .eq 7, 3), (.iconst 3, 1), (.goto 4, 3)]
  | 80 => [(.iconst 4, 1)]
  | 81 => [(.ireturn, 1)]
  | 82 => [(.iconst (-1), 1), (.ireturn, 1)]
  | _ => []
def uX10_kindHere : Nat → Option (List Bool)
  | _ => none
def aX10_kindHere : pvCa
  | 108 => some (2, false, 9, 0, C_X10_skips)
  | _ => none
theorem bX10_kindHere_0 : bX10_kindHere 0 = [(.aload_n 0, 1), (.bipush 63, 2), (.invokevirtual 108, 3), (.ifCond .eq 5, 3), (.iconst 5, 1), (.ireturn, 1)] := rfl
theorem uX10_kindHere_0 : uX10_kindHere 0 = none := rfl
theorem bX10_kindHere_11 : bX10_kindHere 11 = [(.aload_n 0, 1), (.bipush 33, 2), (.invokevirtual 108, 3), (.ifCond .eq 6, 3), (.bipush 6, 2), (.ireturn, 1)] := rfl
theorem uX10_kindHere_11 : uX10_kindHere 11 = none := rfl
theorem bX10_kindHere_23 : bX10_kindHere 23 = [(.aload_n 0, 1), (.bipush 61, 2), (.invokevirtual 108, 3), (.ifCond .eq 5, 3), (.iconst 2, 1), (.ireturn, 1)] := rfl
theorem uX10_kindHere_23 : uX10_kindHere 23 = none := rfl
theorem bX10_kindHere_34 : bX10_kindHere 34 = [(.aload_n 0, 1), (.bipush 60, 2), (.invokevirtual 108, 3), (.ifCond .eq 18, 3), (.aload_n 0, 1), (.bipush 61, 2), (.invokevirtual 108, 3), (.ifCond .eq 7, 3), (.iconst 1, 1), (.goto 4, 3)] := rfl
theorem uX10_kindHere_34 : uX10_kindHere 34 = none := rfl
theorem bX10_kindHere_56 : bX10_kindHere 56 = [(.iconst 0, 1)] := rfl
theorem uX10_kindHere_56 : uX10_kindHere 56 = none := rfl
theorem bX10_kindHere_57 : bX10_kindHere 57 = [(.ireturn, 1)] := rfl
theorem uX10_kindHere_57 : uX10_kindHere 57 = none := rfl
theorem bX10_kindHere_58 : bX10_kindHere 58 = [(.aload_n 0, 1), (.bipush 62, 2), (.invokevirtual 108, 3), (.ifCond .eq 18, 3), (.aload_n 0, 1), (.bipush 61, 2), (.invokevirtual 108, 3), (.ifCond .eq 7, 3), (.iconst 3, 1), (.goto 4, 3)] := rfl
theorem uX10_kindHere_58 : uX10_kindHere 58 = none := rfl
theorem bX10_kindHere_80 : bX10_kindHere 80 = [(.iconst 4, 1)] := rfl
theorem uX10_kindHere_80 : uX10_kindHere 80 = none := rfl
theorem bX10_kindHere_81 : bX10_kindHere 81 = [(.ireturn, 1)] := rfl
theorem uX10_kindHere_81 : uX10_kindHere 81 = none := rfl
theorem bX10_kindHere_82 : bX10_kindHere 82 = [(.iconst (-1), 1), (.ireturn, 1)] := rfl
theorem uX10_kindHere_82 : uX10_kindHere 82 = none := rfl
theorem aX10_kindHere_108 : aX10_kindHere 108 = some (2, false, 9, 0, C_X10_skips) := rfl
def mX10_kindHere : Room := { frames := 2, cells := 1, slots := 6, locals := 41 }
set_option maxRecDepth 100000 in
set_option maxHeartbeats 4000000 in
theorem okX10_kindHere : pvOkM fX10 aX10_kindHere kX10 eX10 (some .int) bX10_kindHere uX10_kindHere 1 C_X10_kindHere := by
  intro Q SW hc as z h hS hz
  unfold C_X10_kindHere at h
  split at h
  · rename_i id
    obtain ⟨rfl, ⟨hp, hn⟩, h2⟩ := h
    obtain ⟨p, ep⟩ : ∃ p : Nat, z.1 39 11 = p := ⟨(z.1 39 11).toNat, by omega⟩
    have s0 : pvUp z.1 39 11 (p : Int) = z.1 := by rw [← ep]; exact pvUp_id
    have n1 : ((p : Int) + 1).toNat = p + 1 := by omega
    rw [ep, Int.toNat_natCast] at h2
    refine ⟨Nat.le_of_ble_eq_true rfl, hc 20 _ _ _ fun _ _ => ?_⟩
    clear hc hS hz
    simp only [pvSt1]
    simp only [C_X10_skips, ep, n1, pvE_aload_n0, pvLA_s, pvLd, pvE_bipush, pvE_invokevirtual, pvC1_s, pvC2_s, pvAf_v, pvAf_x, pvPop, pvCs, pvCat, pvPush, aX10_kindHere_108, pvSh_0, pvSh_1, pvSh_2, pvSh_3, pvSh_4, pvSh_5, pvSh_6, pvSh_7, pvSh_8, pvSh_9, pvSh_10, pvSh_11, pvSh_12, pvSh_13, pvSh_14, pvSh_15, pvSh_16, pvSh_17, pvSh_18, pvSh_19, pvSh_20, pvSh_21, pvSh_22, pvSh_23, pvSh_24, pvSh_25, pvSh_26, pvSh_27, pvSh_28, pvSh_29, pvSh_30, pvSh_31, pvSh_32, pvSh_33, pvSh_34, pvSh_35, pvSh_36, pvSh_37, pvSh_38, pvSh_39, pvSh_40, pvSh_41, pvSh_42, pvSh_43, pvSh_44, pvSh_45, pvSh_46, pvSh_47, pvSh_48, pvSh_49, pvSh_50, pvSh_51, pvSh_52, pvSh_53, pvSh_54, pvSh_55, pvSh_56, pvSh_57, pvSh_58, pvSh_59, pvE_if_eq, pvE_iconst, pvE_ireturn, pvE_goto, bX10_kindHere_0, uX10_kindHere_0, bX10_kindHere_11, uX10_kindHere_11, bX10_kindHere_23, uX10_kindHere_23, bX10_kindHere_34, uX10_kindHere_34, bX10_kindHere_56, uX10_kindHere_56, bX10_kindHere_57, uX10_kindHere_57, bX10_kindHere_58, uX10_kindHere_58, bX10_kindHere_80, uX10_kindHere_80, bX10_kindHere_81, uX10_kindHere_81, bX10_kindHere_82, uX10_kindHere_82, pvRecv_r, pvUp_nl, pvUp_same, pvUp_ap, pvSt_ap, pvX_c, pvX_ms, pvX_mn, pvE_nil, pvEn_i, pvEn_r, pvEn_l, pvEn_0, pvEn_s, pvRt, pvRv, pvTh, pvKc, pvGo, pvTgt, Int.toNat_natCast, false_and, and_false, true_and, and_true, if_true, if_false, reduceIte, reduceCtorEq, forall_const, false_or, or_false, true_or, or_true, ne_eq, not_true_eq_false, not_false_eq_true, implies_true, false_implies, Nat.reduceAdd, Nat.reduceSub, Nat.reduceMul, Nat.reduceEqDiff, Nat.reduceLT, Nat.reduceLeDiff, Int.reduceAdd, Int.reduceSub, Int.reduceMul, Int.reduceNeg, Int.reduceToNat, Int.reduceLE, Int.reduceLT, Int.reduceEq, Int.reduceNe, and_self]
    have c0 : chF (z.1 45) (z.1 39 10) p = if (p : Int) < z.1 39 10 then z.1 45 p else 0 := rfl
    have c1 : chF (z.1 45) (z.1 39 10) (p + 1) = if (p : Int) + 1 < z.1 39 10 then z.1 45 (p + 1) else 0 := rfl
    unfold khF at h2
    (repeat' split at h2) <;> simp only [s0] at h2
    all_goals
      (repeat' (first | with_reducible apply And.intro | intro _))
      all_goals first
        | omega
        | assumption
  · exact h.elim
def C_X10_isConstraint : pvC
  | [.inr (.inr (.inl id))], z, Q => id = 39 ∧ ((0 ≤ z.1 39 11 ∧ z.1 39 11 ≤ 15) ∧ (0 ≤ z.1 39 10 ∧ z.1 39 10 ≤ 30) ∧ (0 ≤ z.1 39 14 ∧ z.1 39 14 ≤ 3) ∧ ∀ k : Nat, (k : Int) < z.1 39 10 → 0 ≤ z.1 45 k ∧ z.1 45 k ≤ 126) ∧
      ∀ z' : pvM, frF [39, 46] [] z z' → (∀ j, j ≠ 11 → j ≠ 14 → z'.1 39 j = z.1 39 j) → z'.1 39 11 = (kcF (chF (z.1 45) (z.1 39 10)) (z.1 39 11).toNat).2.2.2.2 →
      ((kcF (chF (z.1 45) (z.1 39 10)) (z.1 39 11).toNat).1 = true → z'.1 39 14 = z.1 39 14 + 1 → (∀ j, j < 3 * ((z.1 39 14).toNat + 1) → z'.1 46 j = gdI (z.1 46) (z.1 39 14) (kcF (chF (z.1 45) (z.1 39 10)) (z.1 39 11).toNat).2.1 (kcF (chF (z.1 45) (z.1 39 10)) (z.1 39 11).toNat).2.2.1 (kcF (chF (z.1 45) (z.1 39 10)) (z.1 39 11).toNat).2.2.2.1 j) → Q (.inl (some (vI 1))) z') ∧
      ((kcF (chF (z.1 45) (z.1 39 10)) (z.1 39 11).toNat).1 = false → z'.1 39 14 = z.1 39 14 → (∀ j, j < 3 * (z.1 39 14).toNat → z'.1 46 j = z.1 46 j) → Q (.inl (some (vI 0))) z')
  | _, _, _ => False
def bX10_isConstraint : Nat → List (Instr × Nat)
  | 0 => [(.aload_n 0, 1), (.invokevirtual 104, 3), (.bipush 97, 2), (.isub, 1), (.istore_n 1, 1), (.iload_n 1, 1), (.invokestatic 111, 3), (.ifCond .ne 5, 3), (.iconst 0, 1), (.ireturn, 1)]
  | 17 => [(.aload_n 0, 1), (.dup, 1), (.getfield 101, 3), (.iconst 1, 1), (.iadd, 1), (.putfield 101, 3), (.aload_n 0, 1), (.invokevirtual 114, 3), (.istore_n 2, 1), (.iload_n 2, 1), (.ifCond .ge 5, 3), (.iconst 0, 1), (.ireturn, 1)]
  | 38 => [(.aload_n 0, 1), (.getfield 32, 3), (.iconst 3, 1), (.aload_n 0, 1), (.getfield 117, 3), (.imul, 1), (.iload_n 1, 1), (.iastore, 1), (.aload_n 0, 1), (.getfield 32, 3), (.iconst 3, 1), (.aload_n 0, 1), (.getfield 117, 3), (.imul, 1), (.iconst 1, 1), (.iadd, 1), (.iload_n 2, 1), (.iastore, 1), (.aload_n 0, 1), (.getfield 32, 3), (.iconst 3, 1), (.aload_n 0, 1), (.getfield 117, 3), (.imul, 1), (.iconst 2, 1), (.iadd, 1), (.iconst 0, 1), (.iastore, 1), (.iload_n 2, 1), (.iconst 5, 1), (.if_icmp .ge 49, 3), (.aload_n 0, 1), (.invokevirtual 104, 3), (.bipush 48, 2), (.bipush 51, 2), (.invokestatic 76, 3), (.ifCond .ne 5, 3), (.iconst 0, 1), (.ireturn, 1)]
  | 99 => [(.aload_n 0, 1), (.getfield 32, 3), (.iconst 3, 1), (.aload_n 0, 1), (.getfield 117, 3), (.imul, 1), (.iconst 2, 1), (.iadd, 1), (.aload_n 0, 1), (.invokevirtual 104, 3), (.bipush 48, 2), (.isub, 1), (.iastore, 1), (.aload_n 0, 1), (.dup, 1), (.getfield 101, 3), (.iconst 1, 1), (.iadd, 1), (.putfield 101, 3)]
  | 129 => [(.aload_n 0, 1), (.dup, 1), (.getfield 117, 3), (.iconst 1, 1), (.iadd, 1), (.putfield 117, 3), (.iconst 1, 1), (.ireturn, 1)]
  | _ => []
def uX10_isConstraint : Nat → Option (List Bool)
  | _ => none
def aX10_isConstraint : pvCa
  | 76 => some (3, true, 0, 0, C_X10_in)
  | 104 => some (1, false, 9, 0, C_X10_here)
  | 111 => some (1, true, 0, 0, C_X10_isLetter)
  | 114 => some (1, false, 9, 0, C_X10_kindHere)
  | _ => none
theorem bX10_isConstraint_0 : bX10_isConstraint 0 = [(.aload_n 0, 1), (.invokevirtual 104, 3), (.bipush 97, 2), (.isub, 1), (.istore_n 1, 1), (.iload_n 1, 1), (.invokestatic 111, 3), (.ifCond .ne 5, 3), (.iconst 0, 1), (.ireturn, 1)] := rfl
theorem uX10_isConstraint_0 : uX10_isConstraint 0 = none := rfl
theorem bX10_isConstraint_17 : bX10_isConstraint 17 = [(.aload_n 0, 1), (.dup, 1), (.getfield 101, 3), (.iconst 1, 1), (.iadd, 1), (.putfield 101, 3), (.aload_n 0, 1), (.invokevirtual 114, 3), (.istore_n 2, 1), (.iload_n 2, 1), (.ifCond .ge 5, 3), (.iconst 0, 1), (.ireturn, 1)] := rfl
theorem uX10_isConstraint_17 : uX10_isConstraint 17 = none := rfl
theorem bX10_isConstraint_38 : bX10_isConstraint 38 = [(.aload_n 0, 1), (.getfield 32, 3), (.iconst 3, 1), (.aload_n 0, 1), (.getfield 117, 3), (.imul, 1), (.iload_n 1, 1), (.iastore, 1), (.aload_n 0, 1), (.getfield 32, 3), (.iconst 3, 1), (.aload_n 0, 1), (.getfield 117, 3), (.imul, 1), (.iconst 1, 1), (.iadd, 1), (.iload_n 2, 1), (.iastore, 1), (.aload_n 0, 1), (.getfield 32, 3), (.iconst 3, 1), (.aload_n 0, 1), (.getfield 117, 3), (.imul, 1), (.iconst 2, 1), (.iadd, 1), (.iconst 0, 1), (.iastore, 1), (.iload_n 2, 1), (.iconst 5, 1), (.if_icmp .ge 49, 3), (.aload_n 0, 1), (.invokevirtual 104, 3), (.bipush 48, 2), (.bipush 51, 2), (.invokestatic 76, 3), (.ifCond .ne 5, 3), (.iconst 0, 1), (.ireturn, 1)] := rfl
theorem uX10_isConstraint_38 : uX10_isConstraint 38 = none := rfl
theorem bX10_isConstraint_99 : bX10_isConstraint 99 = [(.aload_n 0, 1), (.getfield 32, 3), (.iconst 3, 1), (.aload_n 0, 1), (.getfield 117, 3), (.imul, 1), (.iconst 2, 1), (.iadd, 1), (.aload_n 0, 1), (.invokevirtual 104, 3), (.bipush 48, 2), (.isub, 1), (.iastore, 1), (.aload_n 0, 1), (.dup, 1), (.getfield 101, 3), (.iconst 1, 1), (.iadd, 1), (.putfield 101, 3)] := rfl
theorem uX10_isConstraint_99 : uX10_isConstraint 99 = none := rfl
theorem bX10_isConstraint_129 : bX10_isConstraint 129 = [(.aload_n 0, 1), (.dup, 1), (.getfield 117, 3), (.iconst 1, 1), (.iadd, 1), (.putfield 117, 3), (.iconst 1, 1), (.ireturn, 1)] := rfl
theorem uX10_isConstraint_129 : uX10_isConstraint 129 = none := rfl
theorem aX10_isConstraint_76 : aX10_isConstraint 76 = some (3, true, 0, 0, C_X10_in) := rfl
theorem aX10_isConstraint_104 : aX10_isConstraint 104 = some (1, false, 9, 0, C_X10_here) := rfl
theorem aX10_isConstraint_111 : aX10_isConstraint 111 = some (1, true, 0, 0, C_X10_isLetter) := rfl
theorem aX10_isConstraint_114 : aX10_isConstraint 114 = some (1, false, 9, 0, C_X10_kindHere) := rfl
def mX10_isConstraint : Room := { frames := 3, cells := 1, slots := 6, locals := 61 }
set_option maxRecDepth 100000 in
set_option maxHeartbeats 4000000 in
theorem okX10_isConstraint : pvOkM fX10 aX10_isConstraint kX10 eX10 (some .boolean) bX10_isConstraint uX10_isConstraint 3 C_X10_isConstraint := by
  intro Q SW hc as z h hS hz
  unfold C_X10_isConstraint at h
  split at h
  · rename_i id
    obtain ⟨rfl, ⟨hp, hn, hg, hx⟩, h2⟩ := h
    obtain ⟨p, ep⟩ : ∃ p : Nat, z.1 39 11 = p := ⟨(z.1 39 11).toNat, by omega⟩
    obtain ⟨g, eg⟩ : ∃ p : Nat, z.1 39 14 = p := ⟨(z.1 39 14).toNat, by omega⟩
    have n1 : ((p : Int) + 1).toNat = p + 1 := by omega
    have c0 : chF (z.1 45) (z.1 39 10) p = if (p : Int) < z.1 39 10 then z.1 45 p else 0 := rfl
    have r0 := chF_r hx p
    have r1 := khF_r (chF (z.1 45) (z.1 39 10)) (p + 1)
    obtain ⟨k, q, ek⟩ : ∃ k q, khF (chF (z.1 45) (z.1 39 10)) (p + 1) = (k, q) := ⟨_, _, rfl⟩
    rw [ek] at r1
    simp only at r1
    have c2 : chF (z.1 45) (z.1 39 10) q = if (q : Int) < z.1 39 10 then z.1 45 q else 0 := rfl
    have r2 := chF_r hx q
    simp only [ep, eg, Int.toNat_natCast, kcF_kh, ek] at h2
    refine ⟨Nat.le_of_ble_eq_true rfl, hc 20 _ _ _ fun _ _ => ?_⟩
    clear hc hS hz
    simp only [pvSt1]
    simp only [C_X10_here, C_X10_isLetter, C_X10_kindHere, C_X10_in, ep, eg, n1, ek, pvE_aload_n0, pvLA_s, pvLd, pvE_invokevirtual, pvC1_s, pvC2_s, pvAf_v, pvAf_x, pvPop, pvCs, pvCat, pvPush, aX10_isConstraint_104, pvSh_0, pvSh_1, pvSh_2, pvSh_3, pvSh_4, pvSh_5, pvSh_6, pvSh_7, pvSh_8, pvSh_9, pvSh_10, pvSh_11, pvSh_12, pvSh_13, pvSh_14, pvSh_15, pvSh_16, pvSh_17, pvSh_18, pvSh_19, pvSh_20, pvSh_21, pvSh_22, pvSh_23, pvSh_24, pvSh_25, pvSh_26, pvSh_27, pvSh_28, pvSh_29, pvSh_30, pvSh_31, pvSh_32, pvSh_33, pvSh_34, pvSh_35, pvSh_36, pvSh_37, pvSh_38, pvSh_39, pvSh_40, pvSh_41, pvSh_42, pvSh_43, pvSh_44, pvSh_45, pvSh_46, pvSh_47, pvSh_48, pvSh_49, pvSh_50, pvSh_51, pvSh_52, pvSh_53, pvSh_54, pvSh_55, pvSh_56, pvSh_57, pvSh_58, pvSh_59, pvE_bipush, pvE_isub, pvE_istore_n1, pvS1, List.length_cons, List.length_nil, pvClr_i, pvClr_r, pvClr_l, pvClr_d, pvClr_f, pvClr_n, pvE_iload_n1, pvLI_s, pvE_invokestatic (h0 := eX10_111), aX10_isConstraint_111, pvE_if_ne, pvE_iconst, pvE_ireturn, pvE_dup_i, pvE_dup_r, pvE_getfield, pvGf_0, pvGf_1, pvGf_2, fX10_101, pvRf_0_0, pvRf_0_1, pvRf_0_2, pvRf_0_3, pvRf_0_4, pvRf_0_5, pvRf_0_6, pvRf_0_7, pvRf_0_8, pvRf_0_9, pvRf_0_10, pvRf_1_0, pvRf_3_0, pvRf_5_0, pvRf_5_1, pvRf_5_2, pvRf_9_0, pvRf_9_1, pvRf_9_2, pvRf_13_0, pvRf_13_1, pvRf_13_2, pvRf_17_0, pvRf_17_2, pvRf_20_0, pvRf_20_1, pvRf_20_2, pvRf_24_0, pvRf_24_1, pvRf_24_2, pvRf_28_0, pvRf_28_1, pvRf_28_2, pvRf_28_3, pvRf_33_0, pvRf_33_1, pvRf_36_0, pvRf_36_1, pvRf_39_0, pvRf_39_1, pvRf_39_2, pvRf_39_5, pvRf_39_6, pvRf_39_9, pvRf_39_13, pvRf_39_15, pvRf_39_16, pvRf_39_17, pvRf_39_19, pvRf_39_20, pvRf_39_22, pvRf_39_23, pvRf_39_24, pvRf_39_25, pvRf_39_29, pvRf_39_30, pvE_iadd, pvE_putfield, pvPf_0, pvPf_1, aX10_isConstraint_114, pvE_istore_n2, pvE_iload_n2, pvE_if_ge, fX10_32, fX10_117, pvE_imul, pvE_iastore, pvAI, pvE_icmp_ge, pvE_invokestatic (h0 := eX10_76), aX10_isConstraint_76, bX10_isConstraint_0, uX10_isConstraint_0, bX10_isConstraint_17, uX10_isConstraint_17, bX10_isConstraint_38, uX10_isConstraint_38, bX10_isConstraint_99, uX10_isConstraint_99, bX10_isConstraint_129, uX10_isConstraint_129, pvRecv_r, pvUp_nl, pvUp_same, pvUp_ap, pvSt_ap, pvX_c, pvX_ms, pvX_mn, pvE_nil, pvEn_i, pvEn_r, pvEn_l, pvEn_0, pvEn_s, pvRt, pvRv, pvTh, pvKc, pvGo, pvTgt, Int.toNat_natCast, false_and, and_false, true_and, and_true, if_true, if_false, reduceIte, reduceCtorEq, forall_const, false_or, or_false, true_or, or_true, ne_eq, not_true_eq_false, not_false_eq_true, implies_true, false_implies, Nat.reduceAdd, Nat.reduceSub, Nat.reduceMul, Nat.reduceEqDiff, Nat.reduceLT, Nat.reduceLeDiff, Int.reduceAdd, Int.reduceSub, Int.reduceMul, Int.reduceNeg, Int.reduceToNat, Int.reduceLE, Int.reduceLT, Int.reduceEq, Int.reduceNe, and_self]
    by_cases b0 : ¬ (97 ≤ chF (z.1 45) (z.1 39 10) p ∧ chF (z.1 45) (z.1 39 10) p ≤ 99)
    · simp only [if_pos b0] at h2
      have q := (h2 z frF_0 (fun _ _ _ => rfl) (by simp only [ep])).2 (by simp) eg (fun _ _ => rfl)
      (repeat' (first | with_reducible apply And.intro | intro _))
      all_goals first
        | omega
        | assumption
        | contradiction
    · simp only [if_neg b0] at h2
      by_cases b1 : k < 0
      · simp only [if_pos b1] at h2
        have q := (h2 (pvUp z.1 39 11 ((q : Nat) : Int), z.2) (by (repeat' first | assumption | exact frF_0 | (refine frF_u ?_ (by decide)) | (refine frF_s ?_ (by decide)) | (refine frF_l ?_ (by decide)))) (fun j hj _ => by simp [pvUp_ap, hj]) (by simp [pvUp_ap, r1.2.2.2.1 b1])).2 (by simp) (by simp [pvUp_ap, eg]) (fun j _ => by simp [pvUp_ap])
        (repeat' (first | with_reducible apply And.intro | intro _))
        all_goals first
          | omega
          | assumption
          | contradiction
      · simp only [if_neg b1] at h2
        by_cases b2 : 5 ≤ k
        · simp only [if_pos b2] at h2
          (repeat' (first | with_reducible apply And.intro | intro _))
          all_goals first
            | omega
            | contradiction
            | (refine (h2 _ (by (repeat' first | assumption | exact frF_0 | (refine frF_u ?_ (by decide)) | (refine frF_s ?_ (by decide)) | (refine frF_l ?_ (by decide)))) (fun j _ _ => ?_) ?_).1 (by simp) ?_ (fun j hj => ?_) <;> simp only [gdI, pvUp_ap, Nat.reduceEqDiff, true_and, false_and, if_true, if_false, reduceIte] <;> grind)
            | (simp only [pvUp_ap]; split <;> omega)
        · simp only [if_neg b2, kdF] at h2
          by_cases b3 : 48 ≤ chF (z.1 45) (z.1 39 10) q ∧ chF (z.1 45) (z.1 39 10) q ≤ 51
          · simp only [if_pos b3] at h2
            (repeat' (first | with_reducible apply And.intro | intro _))
            all_goals first
              | omega
              | contradiction
              | (refine (h2 _ (by (repeat' first | assumption | exact frF_0 | (refine frF_u ?_ (by decide)) | (refine frF_s ?_ (by decide)) | (refine frF_l ?_ (by decide)))) (fun j _ _ => ?_) ?_).1 (by simp) ?_ (fun j hj => ?_) <;> simp only [gdI, pvUp_ap, Nat.reduceEqDiff, true_and, false_and, if_true, if_false, reduceIte] <;> grind)
              | (simp only [pvUp_ap]; split <;> omega)
          · simp only [if_neg b3] at h2
            (repeat' (first | with_reducible apply And.intro | intro _))
            all_goals first
              | omega
              | contradiction
              | (refine (h2 _ (by (repeat' first | assumption | exact frF_0 | (refine frF_u ?_ (by decide)) | (refine frF_s ?_ (by decide)) | (refine frF_l ?_ (by decide)))) (fun j _ _ => ?_) ?_).2 (by simp) ?_ (fun j hj => ?_) <;> simp only [gdI, pvUp_ap, Nat.reduceEqDiff, true_and, false_and, if_true, if_false, reduceIte] <;> grind)
              | (simp only [pvUp_ap]; split <;> omega)
  · exact h.elim
