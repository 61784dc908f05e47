def fX0 : pvF
  | 11 => some (0, 0, 2)
  | 31 => some (1, 3, 0)
  | 99 => some (6, 4, 0)
  | _ => none
def kX0 : pvCo
  | 39 => some (vI 262143)
  | _ => none
def eX0 : pvEx
  | 50 => some 100
  | _ => none
def fX1 : pvF
  | 9 => some (1, 0, 2)
  | 15 => some (1, 1, 0)
  | 19 => some (1, 2, 2)
  | 22 => some (1, 3, 0)
  | 25 => some (1, 4, 0)
  | _ => none
def kX1 : pvCo
  | _ => none
def eX1 : pvEx
  | _ => none
def fX2 : pvF
  | 13 => some (2, 0, 2)
  | 17 => some (2, 1, 2)
  | 20 => some (2, 2, 0)
  | 24 => some (2, 3, 0)
  | 27 => some (2, 4, 1)
  | _ => none
def kX2 : pvCo
  | _ => none
def eX2 : pvEx
  | _ => none
def fX3 : pvF
  | 11 => some (3, 0, 2)
  | 17 => some (3, 1, 2)
  | 20 => some (3, 2, 2)
  | 23 => some (3, 3, 0)
  | 27 => some (3, 4, 0)
  | 30 => some (3, 5, 0)
  | 33 => some (3, 6, 1)
  | _ => none
def kX3 : pvCo
  | _ => none
def eX3 : pvEx
  | _ => none
def fX4 : pvF
  | 9 => some (4, 0, 2)
  | 15 => some (4, 1, 2)
  | 18 => some (4, 2, 2)
  | 32 => some (6, 4, 0)
  | _ => none
def kX4 : pvCo
  | _ => none
def eX4 : pvEx
  | _ => none
def fX5 : pvF
  | 11 => some (5, 0, 2)
  | 15 => some (5, 1, 2)
  | 18 => some (5, 2, 2)
  | 21 => some (5, 3, 2)
  | 24 => some (5, 4, 0)
  | 50 => some (3, 4, 0)
  | 82 => some (3, 5, 0)
  | _ => none
def kX5 : pvCo
  | _ => none
def eX5 : pvEx
  | _ => none
def fX6 : pvF
  | 9 => some (6, 0, 2)
  | 15 => some (6, 1, 2)
  | 18 => some (6, 2, 2)
  | 23 => some (6, 3, 0)
  | 27 => some (6, 4, 0)
  | _ => none
def kX6 : pvCo
  | _ => none
def eX6 : pvEx
  | _ => none
def fX7 : pvF
  | _ => none
def kX7 : pvCo
  | 17 => some (vI 262143)
  | _ => none
def eX7 : pvEx
  | _ => none
def fX8 : pvF
  | 13 => some (7, 0, 2)
  | 17 => some (7, 1, 2)
  | 22 => some (3, 4, 0)
  | 36 => some (3, 5, 0)
  | _ => none
def kX8 : pvCo
  | 20 => some (vL 15)
  | _ => none
def eX8 : pvEx
  | 43 => some 101
  | _ => none
def fX9 : pvF
  | 10 => some (8, 0, 2)
  | 16 => some (8, 1, 2)
  | 22 => some (8, 2, 2)
  | 26 => some (8, 3, 2)
  | 29 => some (8, 4, 2)
  | 35 => some (8, 5, 2)
  | 42 => some (8, 6, 2)
  | 49 => some (8, 7, 2)
  | 56 => some (8, 8, 2)
  | 63 => some (8, 9, 2)
  | 70 => some (8, 10, 2)
  | 93 => some (1, 4, 0)
  | 172 => some (6, 4, 0)
  | 221 => some (3, 3, 0)
  | 276 => some (2, 3, 0)
  | 290 => some (2, 4, 1)
  | 303 => some (3, 6, 1)
  | _ => none
def kX9 : pvCo
  | _ => none
def eX9 : pvEx
  | 306 => some 0
  | 309 => some 1
  | 312 => some 2
  | 315 => some 3
  | _ => none
def fX10 : pvF
  | 7 => some (9, 0, 2)
  | 13 => some (9, 1, 2)
  | 16 => some (9, 2, 2)
  | 19 => some (9, 5, 2)
  | 22 => some (9, 6, 2)
  | 25 => some (9, 9, 2)
  | 28 => some (9, 12, 0)
  | 32 => some (9, 13, 2)
  | 35 => some (9, 15, 2)
  | 39 => some (9, 16, 2)
  | 42 => some (9, 17, 2)
  | 45 => some (9, 19, 2)
  | 48 => some (9, 20, 2)
  | 51 => some (9, 22, 2)
  | 54 => some (9, 23, 2)
  | 57 => some (9, 24, 2)
  | 60 => some (9, 25, 2)
  | 63 => some (9, 29, 2)
  | 66 => some (9, 30, 2)
  | 73 => some (9, 8, 0)
  | 84 => some (9, 3, 0)
  | 91 => some (9, 4, 1)
  | 98 => some (9, 10, 0)
  | 101 => some (9, 11, 0)
  | 117 => some (9, 14, 0)
  | 158 => some (9, 7, 0)
  | 194 => some (9, 18, 0)
  | 209 => some (9, 21, 0)
  | 222 => some (9, 28, 1)
  | 225 => some (9, 26, 0)
  | 228 => some (9, 27, 0)
  | _ => none
def kX10 : pvCo
  | 265 => some (vL 15)
  | _ => none
def eX10 : pvEx
  | _ => none
def fL : pvF
  | _ => none
def kL : pvCo
  | _ => none
def eL : pvEx
  | _ => none
def fJ6 : pvF
  | _ => none
def kJ6 : pvCo
  | 265 => some (vI 1431655765)
  | 266 => some (vI 858993459)
  | 267 => some (vI 252645135)
  | _ => none
def eJ6 : pvEx
  | _ => none
def fJ9 : pvF
  | _ => none
def kJ9 : pvCo
  | _ => none
def eJ9 : pvEx
  | _ => none
def C_X9_isIndex : pvC
  | [.inl i, .inl n], z, Q => (0 ≤ i ∧ i < n → Q (.inl (some (vI 1))) z) ∧ (¬ (0 ≤ i ∧ i < n) → Q (.inl (some (vI 0))) z)
  | _, _, _ => False
def bX9_isIndex : Nat → List (Instr × Nat)
  | 0 => [(.iload_n 0, 1), (.ifCond .lt 12, 3), (.iload_n 0, 1), (.iload_n 1, 1), (.if_icmp .ge 7, 3), (.iconst 1, 1), (.goto 4, 3)]
  | 13 => [(.iconst 0, 1)]
  | 14 => [(.ireturn, 1)]
  | _ => []
def uX9_isIndex : Nat → Option (List Bool)
  | _ => none
def aX9_isIndex : pvCa
  | _ => none
def mX9_isIndex : Room := { frames := 0, cells := 1, slots := 6, locals := 0 }
theorem okX9_isIndex : pvOkM fX9 aX9_isIndex kX9 eX9 (some .boolean) bX9_isIndex uX9_isIndex 2 C_X9_isIndex := by
  intro Q SW hc as z h hS hz
  unfold C_X9_isIndex at h
  split at h
  · rename_i i n
    refine ⟨Nat.le_of_ble_eq_true rfl, hc 9 _ _ _ fun _ _ => ?_⟩
    simp only [pvSt1]
    simp only [bX9_isIndex, uX9_isIndex, aX9_isIndex, fX9, kX9, eX9, pvE_nil, pvE_iconst, pvE_bipush, pvE_sipush, pvE_lconst0, pvE_lconst1, pvE_iload, pvE_iload_n0, pvE_iload_n1, pvE_iload_n2, pvE_iload_n3, pvE_lload, pvE_lload_n0, pvE_lload_n1, pvE_lload_n2, pvE_lload_n3, pvE_aload, pvE_aload_n0, pvE_aload_n1, pvE_aload_n2, pvE_aload_n3, pvE_dload, pvE_dload_n0, pvE_dload_n1, pvE_dload_n2, pvE_dload_n3, pvE_fload, pvE_istore, pvE_istore_n0, pvE_istore_n1, pvE_istore_n2, pvE_istore_n3, pvE_astore, pvE_astore_n0, pvE_astore_n1, pvE_astore_n2, pvE_astore_n3, pvE_fstore, pvE_lstore, pvE_lstore_n0, pvE_lstore_n1, pvE_lstore_n2, pvE_lstore_n3, pvE_dstore, pvE_dstore_n0, pvE_dstore_n1, pvE_dstore_n2, pvE_dstore_n3, pvE_iinc, pvE_iadd, pvE_isub, pvE_imul, pvE_idiv, pvE_irem, pvE_iand, pvE_ior, pvE_ixor, pvE_ishl, pvE_ishr, pvE_iushr, pvE_ineg, pvE_ladd, pvE_lmul, pvE_lcmp, pvE_i2l, pvE_l2d, pvE_i2f, pvE_ddiv, pvE_fdiv, pvE_f2d, pvE_dcmp, pvE_fcmp, pvE_dconst0, pvE_fconst0, pvE_dup_i, pvE_pop_i, pvE_dup_r, pvE_pop_r, pvE_dup2, pvE_getfield, pvE_putfield, pvE_iaload, pvE_arraylength, pvE_laload, pvE_daload, pvE_iastore, pvE_lastore, pvE_dastore, pvE_if_eq, pvE_if_ne, pvE_if_lt, pvE_if_ge, pvE_if_gt, pvE_if_le, pvE_icmp_eq, pvE_icmp_ne, pvE_icmp_lt, pvE_icmp_ge, pvE_icmp_gt, pvE_icmp_le, pvE_goto, pvE_tableswitch, pvE_invokevirtual, pvE_invokestatic, pvE_copy_i, pvE_copy_l, pvE_ireturn, pvE_lreturn, pvE_areturn, pvE_dreturn, pvE_freturn, pvE_return, pvE_throw, pvX_c, pvX_ms, pvX_mn, pvB_ld_s, pvGf_0, pvGf_1, pvGf_2, pvPf_0, pvPf_1, pvLd, pvS1, pvS2, pvClr_i, pvClr_r, pvClr_l, pvClr_d, pvClr_f, pvClr_n, pvEn_i, pvEn_r, pvEn_l, pvEn_0, pvEn_s, pvMk_t, pvMk_f, pvMk_n, pvPop, pvCs, pvCat, pvPush, pvKk, pvRt, pvRv, pvTh, pvKc, pvGo, pvTgt, pvCall, pvSw, pvSh, pvRf, List.length_cons, List.length_nil, true_and, and_true, if_true, if_false, reduceIte, reduceCtorEq, Option.some.injEq, Sum.inl.injEq, Sum.inr.injEq, Prod.mk.injEq, List.cons.injEq, forall_const, false_or, or_false, not_true_eq_false, not_false_eq_true, implies_true, false_implies, true_implies, Nat.reduceAdd, Nat.reduceSub, Nat.reduceMul, Nat.reduceEqDiff, Nat.reduceLT, Nat.reduceLeDiff, Int.reduceAdd, Int.reduceSub, Int.reduceMul, Int.reduceNeg, Int.reduceToNat, Int.reduceLE, Int.reduceLT, Int.reduceEq]
    skip
  · exact h.elim
def C_X10_at : pvC
  | [.inl s, .inl t], z, Q => (0 ≤ s ∧ s ≤ 1 ∧ 0 ≤ t ∧ t ≤ 10) ∧ Q (.inl (some (vI (163 * s + 3 + 16 * t)))) z
  | _, _, _ => False
def bX10_at : Nat → List (Instr × Nat)
  | 0 => [(.sipush 163, 3), (.iload_n 0, 1), (.imul, 1), (.iconst 3, 1), (.iadd, 1), (.bipush 16, 2), (.iload_n 1, 1), (.imul, 1), (.iadd, 1), (.ireturn, 1)]
  | _ => []
def uX10_at : Nat → Option (List Bool)
  | _ => none
def aX10_at : pvCa
  | _ => none
def mX10_at : Room := { frames := 0, cells := 1, slots := 6, locals := 0 }
theorem okX10_at : pvOkM fX10 aX10_at kX10 eX10 (some .int) bX10_at uX10_at 2 C_X10_at := by
  intro Q SW hc as z h hS hz
  unfold C_X10_at at h
  split at h
  · rename_i s t
    obtain ⟨h1, h2⟩ := h
    refine ⟨Nat.le_of_ble_eq_true rfl, hc 9 _ _ _ fun _ _ => ?_⟩
    simp only [pvSt1]
    simp only [bX10_at, uX10_at, aX10_at, fX10, kX10, eX10, pvE_nil, pvE_iconst, pvE_bipush, pvE_sipush, pvE_lconst0, pvE_lconst1, pvE_iload, pvE_iload_n0, pvE_iload_n1, pvE_iload_n2, pvE_iload_n3, pvE_lload, pvE_lload_n0, pvE_lload_n1, pvE_lload_n2, pvE_lload_n3, pvE_aload, pvE_aload_n0, pvE_aload_n1, pvE_aload_n2, pvE_aload_n3, pvE_dload, pvE_dload_n0, pvE_dload_n1, pvE_dload_n2, pvE_dload_n3, pvE_fload, pvE_istore, pvE_istore_n0, pvE_istore_n1, pvE_istore_n2, pvE_istore_n3, pvE_astore, pvE_astore_n0, pvE_astore_n1, pvE_astore_n2, pvE_astore_n3, pvE_fstore, pvE_lstore, pvE_lstore_n0, pvE_lstore_n1, pvE_lstore_n2, pvE_lstore_n3, pvE_dstore, pvE_dstore_n0, pvE_dstore_n1, pvE_dstore_n2, pvE_dstore_n3, pvE_iinc, pvE_iadd, pvE_isub, pvE_imul, pvE_idiv, pvE_irem, pvE_iand, pvE_ior, pvE_ixor, pvE_ishl, pvE_ishr, pvE_iushr, pvE_ineg, pvE_ladd, pvE_lmul, pvE_lcmp, pvE_i2l, pvE_l2d, pvE_i2f, pvE_ddiv, pvE_fdiv, pvE_f2d, pvE_dcmp, pvE_fcmp, pvE_dconst0, pvE_fconst0, pvE_dup_i, pvE_pop_i, pvE_dup_r, pvE_pop_r, pvE_dup2, pvE_getfield, pvE_putfield, pvE_iaload, pvE_arraylength, pvE_laload, pvE_daload, pvE_iastore, pvE_lastore, pvE_dastore, pvE_if_eq, pvE_if_ne, pvE_if_lt, pvE_if_ge, pvE_if_gt, pvE_if_le, pvE_icmp_eq, pvE_icmp_ne, pvE_icmp_lt, pvE_icmp_ge, pvE_icmp_gt, pvE_icmp_le, pvE_goto, pvE_tableswitch, pvE_invokevirtual, pvE_invokestatic, pvE_copy_i, pvE_copy_l, pvE_ireturn, pvE_lreturn, pvE_areturn, pvE_dreturn, pvE_freturn, pvE_return, pvE_throw, pvX_c, pvX_ms, pvX_mn, pvB_ld_s, pvGf_0, pvGf_1, pvGf_2, pvPf_0, pvPf_1, pvLd, pvS1, pvS2, pvClr_i, pvClr_r, pvClr_l, pvClr_d, pvClr_f, pvClr_n, pvEn_i, pvEn_r, pvEn_l, pvEn_0, pvEn_s, pvMk_t, pvMk_f, pvMk_n, pvPop, pvCs, pvCat, pvPush, pvKk, pvRt, pvRv, pvTh, pvKc, pvGo, pvTgt, pvCall, pvSw, pvSh, pvRf, List.length_cons, List.length_nil, true_and, and_true, if_true, if_false, reduceIte, reduceCtorEq, Option.some.injEq, Sum.inl.injEq, Sum.inr.injEq, Prod.mk.injEq, List.cons.injEq, forall_const, false_or, or_false, not_true_eq_false, not_false_eq_true, implies_true, false_implies, true_implies, Nat.reduceAdd, Nat.reduceSub, Nat.reduceMul, Nat.reduceEqDiff, Nat.reduceLT, Nat.reduceLeDiff, Int.reduceAdd, Int.reduceSub, Int.reduceMul, Int.reduceNeg, Int.reduceToNat, Int.reduceLE, Int.reduceLT, Int.reduceEq]
    skip
  · exact h.elim
def C_X0_cell : pvC
  | [.inr (.inr (.inl id)), .inl t, .inl c], z, Q => (id = 1 ∨ id = 3) ∧ (0 ≤ t ∧ t ≤ 10 ∧ 0 ≤ c ∧ c ≤ 16) ∧ Q (.inl (some (vI (if 3 + 17 * t + c < 173 then z.1 (id + 1) (3 + 17 * t + c).toNat else 0)))) z
  | _, _, _ => False
def bX0_cell : Nat → List (Instr × Nat)
  | 0 => [(.iconst 3, 1), (.bipush 17, 2), (.iload_n 1, 1), (.imul, 1), (.iadd, 1), (.iload_n 2, 1), (.iadd, 1), (.istore_n 3, 1), (.iload_n 3, 1), (.sipush 173, 3), (.invokestatic 15, 3), (.ifCond .eq 12, 3), (.aload_n 0, 1), (.getfield 11, 3), (.iload_n 3, 1), (.iaload, 1), (.goto 4, 3)]
  | 28 => [(.iconst 0, 1)]
  | 29 => [(.ireturn, 1)]
  | _ => []
def uX0_cell : Nat → Option (List Bool)
  | _ => none
def aX0_cell : pvCa
  | 15 => some (2, true, 0, 0, C_X9_isIndex)
  | _ => none
def mX0_cell : Room := { frames := 1, cells := 1, slots := 6, locals := 21 }
theorem okX0_cell : pvOkM fX0 aX0_cell kX0 eX0 (some .int) bX0_cell uX0_cell 4 C_X0_cell := by
  intro Q SW hc as z h hS hz
  unfold C_X0_cell at h
  split at h
  · rename_i id t c
    obtain ⟨hid, h1, h2⟩ := h
    refine ⟨Nat.le_of_ble_eq_true rfl, hc 9 _ _ _ fun _ _ => ?_⟩
    rcases hid with rfl | rfl
    · simp only [pvSt1]
      simp only [bX0_cell, uX0_cell, aX0_cell, fX0, kX0, eX0, C_X9_isIndex, pvE_nil, pvE_iconst, pvE_bipush, pvE_sipush, pvE_lconst0, pvE_lconst1, pvE_iload, pvE_iload_n0, pvE_iload_n1, pvE_iload_n2, pvE_iload_n3, pvE_lload, pvE_lload_n0, pvE_lload_n1, pvE_lload_n2, pvE_lload_n3, pvE_aload, pvE_aload_n0, pvE_aload_n1, pvE_aload_n2, pvE_aload_n3, pvE_dload, pvE_dload_n0, pvE_dload_n1, pvE_dload_n2, pvE_dload_n3, pvE_fload, pvE_istore, pvE_istore_n0, pvE_istore_n1, pvE_istore_n2, pvE_istore_n3, pvE_astore, pvE_astore_n0, pvE_astore_n1, pvE_astore_n2, pvE_astore_n3, pvE_fstore, pvE_lstore, pvE_lstore_n0, pvE_lstore_n1, pvE_lstore_n2, pvE_lstore_n3, pvE_dstore, pvE_dstore_n0, pvE_dstore_n1, pvE_dstore_n2, pvE_dstore_n3, pvE_iinc, pvE_iadd, pvE_isub, pvE_imul, pvE_idiv, pvE_irem, pvE_iand, pvE_ior, pvE_ixor, pvE_ishl, pvE_ishr, pvE_iushr, pvE_ineg, pvE_ladd, pvE_lmul, pvE_lcmp, pvE_i2l, pvE_l2d, pvE_i2f, pvE_ddiv, pvE_fdiv, pvE_f2d, pvE_dcmp, pvE_fcmp, pvE_dconst0, pvE_fconst0, pvE_dup_i, pvE_pop_i, pvE_dup_r, pvE_pop_r, pvE_dup2, pvE_getfield, pvE_putfield, pvE_iaload, pvE_arraylength, pvE_laload, pvE_daload, pvE_iastore, pvE_lastore, pvE_dastore, pvE_if_eq, pvE_if_ne, pvE_if_lt, pvE_if_ge, pvE_if_gt, pvE_if_le, pvE_icmp_eq, pvE_icmp_ne, pvE_icmp_lt, pvE_icmp_ge, pvE_icmp_gt, pvE_icmp_le, pvE_goto, pvE_tableswitch, pvE_invokevirtual, pvE_invokestatic, pvE_copy_i, pvE_copy_l, pvE_ireturn, pvE_lreturn, pvE_areturn, pvE_dreturn, pvE_freturn, pvE_return, pvE_throw, pvX_c, pvX_ms, pvX_mn, pvB_ld_s, pvGf_0, pvGf_1, pvGf_2, pvPf_0, pvPf_1, pvLd, pvS1, pvS2, pvClr_i, pvClr_r, pvClr_l, pvClr_d, pvClr_f, pvClr_n, pvEn_i, pvEn_r, pvEn_l, pvEn_0, pvEn_s, pvMk_t, pvMk_f, pvMk_n, pvPop, pvCs, pvCat, pvPush, pvKk, pvRt, pvRv, pvTh, pvKc, pvGo, pvTgt, pvCall, pvSw, pvSh, pvRf, List.length_cons, List.length_nil, true_and, and_true, if_true, if_false, reduceIte, reduceCtorEq, Option.some.injEq, Sum.inl.injEq, Sum.inr.injEq, Prod.mk.injEq, List.cons.injEq, forall_const, false_or, or_false, not_true_eq_false, not_false_eq_true, implies_true, false_implies, true_implies, Nat.reduceAdd, Nat.reduceSub, Nat.reduceMul, Nat.reduceEqDiff, Nat.reduceLT, Nat.reduceLeDiff, Int.reduceAdd, Int.reduceSub, Int.reduceMul, Int.reduceNeg, Int.reduceToNat, Int.reduceLE, Int.reduceLT, Int.reduceEq]
      skip
    · sorry
  · exact h.elim
