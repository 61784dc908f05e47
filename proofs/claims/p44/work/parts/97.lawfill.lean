/-! fill: its parts without texts -/
def bL_fill : Nat → List (Instr × Nat)
  | 0 => [(.bipush 10, 2), (.iload 4, 2), (.imul, 1), (.newarray .int, 2), (.astore 5, 2), (.iconst 0, 1), (.istore 6, 2)]
  | 12 => [(.iload 6, 2), (.iload 4, 2), (.if_icmp .ge 314, 3)]
  | 19 => [(.iload_n 2, 1), (.bipush 6, 2), (.iload 6, 2), (.imul, 1), (.iadd, 1), (.istore 7, 2), (.aload 5, 2), (.bipush 10, 2), (.iload 6, 2), (.imul, 1), (.aload_n 1, 1), (.iload 7, 2), (.iconst 3, 1), (.invokestatic 64, 3), (.iastore, 1), (.aload 5, 2), (.bipush 10, 2), (.iload 6, 2), (.imul, 1), (.iconst 1, 1), (.iadd, 1), (.aload_n 1, 1), (.iload 7, 2), (.iconst 1, 1), (.iadd, 1), (.iconst 3, 1), (.invokestatic 64, 3), (.iastore, 1), (.aload 5, 2), (.bipush 10, 2), (.iload 6, 2), (.imul, 1), (.iconst 2, 1), (.iadd, 1), (.aload_n 1, 1), (.iload 7, 2), (.iconst 2, 1), (.iadd, 1), (.iconst 3, 1), (.invokestatic 64, 3), (.iastore, 1), (.aload 5, 2), (.bipush 10, 2), (.iload 6, 2), (.imul, 1), (.iconst 3, 1), (.iadd, 1), (.aload_n 1, 1), (.iload 7, 2), (.iconst 3, 1), (.iadd, 1), (.iconst 3, 1), (.invokestatic 64, 3), (.iastore, 1)]
  | 100 => [(.ldc 68, 2), (.astore 8, 2), (.iconst 0, 1), (.istore 9, 2)]
  | 107 => [(.iload 9, 2), (.aload 5, 2), (.bipush 10, 2), (.iload 6, 2), (.imul, 1), (.iconst 3, 1), (.iadd, 1), (.iaload, 1), (.if_icmp .ge 159, 3), (.aload_n 1, 1), (.iload 7, 2), (.iconst 4, 1), (.iadd, 1), (.iload 9, 2), (.iadd, 1), (.invokestatic 8, 3), (.iconst 1, 1), (.iushr, 1), (.istore 10, 2), (.aload 5, 2), (.bipush 10, 2), (.iload 6, 2), (.imul, 1), (.iconst 4, 1), (.iadd, 1), (.iconst 3, 1), (.iload 9, 2), (.imul, 1), (.iadd, 1), (.iload 10, 2), (.iconst 3, 1), (.irem, 1), (.iastore, 1), (.aload 5, 2), (.bipush 10, 2), (.iload 6, 2), (.imul, 1), (.iconst 5, 1), (.iadd, 1), (.iconst 3, 1), (.iload 9, 2), (.imul, 1), (.iadd, 1), (.iload 10, 2), (.iconst 3, 1), (.idiv, 1), (.bipush 7, 2), (.irem, 1), (.iastore, 1), (.aload 5, 2), (.bipush 10, 2), (.iload 6, 2), (.imul, 1), (.bipush 6, 2), (.iadd, 1), (.iconst 3, 1), (.iload 9, 2), (.imul, 1), (.iadd, 1), (.iload 10, 2), (.iconst 3, 1), (.idiv, 1), (.bipush 7, 2), (.irem, 1), (.iconst 5, 1), (.if_icmp .ge 13, 3), (.iload 10, 2), (.bipush 21, 2), (.idiv, 1), (.iconst 4, 1), (.irem, 1), (.goto 4, 3)]
  | 214 => [(.iconst 0, 1)]
  | 215 => [(.iastore, 1)]
  | 216 => [(.new 36, 3), (.dup, 1), (.invokespecial 38, 3), (.aload 8, 2), (.invokevirtual 39, 3), (.iload 9, 2), (.ifCond .le 8, 3), (.ldc 70, 2), (.goto 5, 3)]
  | 238 => [(.ldc 68, 2)]
  | 240 => [(.invokevirtual 39, 3), (.iload 10, 2), (.iconst 3, 1), (.irem, 1), (.iload 10, 2), (.iconst 3, 1), (.idiv, 1), (.bipush 7, 2), (.irem, 1), (.iload 10, 2), (.bipush 21, 2), (.idiv, 1), (.iconst 4, 1), (.irem, 1), (.invokestatic 72, 3), (.invokevirtual 39, 3), (.invokevirtual 45, 3), (.astore 8, 2), (.iinc 9 1, 3), (.goto (-168), 3)]
  | 278 => [(.aload_n 0, 1), (.aload 8, 2), (.invokestatic 76, 3)]
  | 284 => [(.aload_n 0, 1), (.iload_n 3, 1), (.aload 5, 2), (.bipush 10, 2), (.iload 6, 2), (.imul, 1), (.iaload, 1), (.aload 5, 2), (.bipush 10, 2), (.iload 6, 2), (.imul, 1), (.iconst 1, 1), (.iadd, 1), (.iaload, 1), (.aload 5, 2), (.bipush 10, 2), (.iload 6, 2), (.imul, 1), (.iconst 2, 1), (.iadd, 1), (.iaload, 1), (.invokevirtual 80, 3), (.iload 6, 2), (.if_icmp .eq 5, 3), (.aconst_null, 1), (.areturn, 1)]
  | 324 => [(.iinc 6 1, 3), (.goto (-315), 3)]
  | 330 => [(.aload 5, 2), (.areturn, 1)]
  | _ => []
def uL_fill : Nat → Option (List Bool)
  | 12 => some [true, true, true, true, true, true, true, false, false, false, false]
  | 19 => some [true, true, true, true, true, true, true, false, false, false, false]
  | 100 => some [true, true, true, true, true, true, true, true, false, false, false]
  | 107 => some [true, true, true, true, true, true, true, true, true, true, false]
  | 216 => some [true, true, true, true, true, true, true, true, true, true, true]
  | 278 => some [true, true, true, true, true, true, true, false, true, false, false]
  | 284 => some [true, true, true, true, true, true, true, false, false, false, false]
  | _ => none
def aL_fill (lim : Nat → Prop) (sc : Nat × (Nat → Int)) : pvCa
  | 8 => some (2, true, 0, 0, C_L_cell lim sc)
  | 64 => some (3, true, 0, 0, C_L_draw lim sc)
  | 80 => some (5, false, 8, 0, C_X9_addTransition)
  | _ => none
theorem bL_fill_0 : bL_fill 0 = [(.bipush 10, 2), (.iload 4, 2), (.imul, 1), (.newarray .int, 2), (.astore 5, 2), (.iconst 0, 1), (.istore 6, 2)] := rfl
theorem uL_fill_0 : uL_fill 0 = none := rfl
theorem bL_fill_12 : bL_fill 12 = [(.iload 6, 2), (.iload 4, 2), (.if_icmp .ge 314, 3)] := rfl
theorem uL_fill_12 : uL_fill 12 = some [true, true, true, true, true, true, true, false, false, false, false] := rfl
theorem bL_fill_19 : bL_fill 19 = [(.iload_n 2, 1), (.bipush 6, 2), (.iload 6, 2), (.imul, 1), (.iadd, 1), (.istore 7, 2), (.aload 5, 2), (.bipush 10, 2), (.iload 6, 2), (.imul, 1), (.aload_n 1, 1), (.iload 7, 2), (.iconst 3, 1), (.invokestatic 64, 3), (.iastore, 1), (.aload 5, 2), (.bipush 10, 2), (.iload 6, 2), (.imul, 1), (.iconst 1, 1), (.iadd, 1), (.aload_n 1, 1), (.iload 7, 2), (.iconst 1, 1), (.iadd, 1), (.iconst 3, 1), (.invokestatic 64, 3), (.iastore, 1), (.aload 5, 2), (.bipush 10, 2), (.iload 6, 2), (.imul, 1), (.iconst 2, 1), (.iadd, 1), (.aload_n 1, 1), (.iload 7, 2), (.iconst 2, 1), (.iadd, 1), (.iconst 3, 1), (.invokestatic 64, 3), (.iastore, 1), (.aload 5, 2), (.bipush 10, 2), (.iload 6, 2), (.imul, 1), (.iconst 3, 1), (.iadd, 1), (.aload_n 1, 1), (.iload 7, 2), (.iconst 3, 1), (.iadd, 1), (.iconst 3, 1), (.invokestatic 64, 3), (.iastore, 1)] := rfl
theorem uL_fill_19 : uL_fill 19 = some [true, true, true, true, true, true, true, false, false, false, false] := rfl
theorem bL_fill_100 : bL_fill 100 = [(.ldc 68, 2), (.astore 8, 2), (.iconst 0, 1), (.istore 9, 2)] := rfl
theorem uL_fill_100 : uL_fill 100 = some [true, true, true, true, true, true, true, true, false, false, false] := rfl
theorem bL_fill_107 : bL_fill 107 = [(.iload 9, 2), (.aload 5, 2), (.bipush 10, 2), (.iload 6, 2), (.imul, 1), (.iconst 3, 1), (.iadd, 1), (.iaload, 1), (.if_icmp .ge 159, 3), (.aload_n 1, 1), (.iload 7, 2), (.iconst 4, 1), (.iadd, 1), (.iload 9, 2), (.iadd, 1), (.invokestatic 8, 3), (.iconst 1, 1), (.iushr, 1), (.istore 10, 2), (.aload 5, 2), (.bipush 10, 2), (.iload 6, 2), (.imul, 1), (.iconst 4, 1), (.iadd, 1), (.iconst 3, 1), (.iload 9, 2), (.imul, 1), (.iadd, 1), (.iload 10, 2), (.iconst 3, 1), (.irem, 1), (.iastore, 1), (.aload 5, 2), (.bipush 10, 2), (.iload 6, 2), (.imul, 1), (.iconst 5, 1), (.iadd, 1), (.iconst 3, 1), (.iload 9, 2), (.imul, 1), (.iadd, 1), (.iload 10, 2), (.iconst 3, 1), (.idiv, 1), (.bipush 7, 2), (.irem, 1), (.iastore, 1), (.aload 5, 2), (.bipush 10, 2), (.iload 6, 2), (.imul, 1), (.bipush 6, 2), (.iadd, 1), (.iconst 3, 1), (.iload 9, 2), (.imul, 1), (.iadd, 1), (.iload 10, 2), (.iconst 3, 1), (.idiv, 1), (.bipush 7, 2), (.irem, 1), (.iconst 5, 1), (.if_icmp .ge 13, 3), (.iload 10, 2), (.bipush 21, 2), (.idiv, 1), (.iconst 4, 1), (.irem, 1), (.goto 4, 3)] := rfl
theorem uL_fill_107 : uL_fill 107 = some [true, true, true, true, true, true, true, true, true, true, false] := rfl
theorem bL_fill_214 : bL_fill 214 = [(.iconst 0, 1)] := rfl
theorem uL_fill_214 : uL_fill 214 = none := rfl
theorem bL_fill_215 : bL_fill 215 = [(.iastore, 1)] := rfl
theorem uL_fill_215 : uL_fill 215 = none := rfl
theorem bL_fill_216 : bL_fill 216 = [(.new 36, 3), (.dup, 1), (.invokespecial 38, 3), (.aload 8, 2), (.invokevirtual 39, 3), (.iload 9, 2), (.ifCond .le 8, 3), (.ldc 70, 2), (.goto 5, 3)] := rfl
theorem uL_fill_216 : uL_fill 216 = some [true, true, true, true, true, true, true, true, true, true, true] := rfl
theorem bL_fill_238 : bL_fill 238 = [(.ldc 68, 2)] := rfl
theorem uL_fill_238 : uL_fill 238 = none := rfl
theorem bL_fill_240 : bL_fill 240 = [(.invokevirtual 39, 3), (.iload 10, 2), (.iconst 3, 1), (.irem, 1), (.iload 10, 2), (.iconst 3, 1), (.idiv, 1), (.bipush 7, 2), (.irem, 1), (.iload 10, 2), (.bipush 21, 2), (.idiv, 1), (.iconst 4, 1), (.irem, 1), (.invokestatic 72, 3), (.invokevirtual 39, 3), (.invokevirtual 45, 3), (.astore 8, 2), (.iinc 9 1, 3), (.goto (-168), 3)] := rfl
theorem uL_fill_240 : uL_fill 240 = none := rfl
theorem bL_fill_278 : bL_fill 278 = [(.aload_n 0, 1), (.aload 8, 2), (.invokestatic 76, 3)] := rfl
theorem uL_fill_278 : uL_fill 278 = some [true, true, true, true, true, true, true, false, true, false, false] := rfl
theorem bL_fill_284 : bL_fill 284 = [(.aload_n 0, 1), (.iload_n 3, 1), (.aload 5, 2), (.bipush 10, 2), (.iload 6, 2), (.imul, 1), (.iaload, 1), (.aload 5, 2), (.bipush 10, 2), (.iload 6, 2), (.imul, 1), (.iconst 1, 1), (.iadd, 1), (.iaload, 1), (.aload 5, 2), (.bipush 10, 2), (.iload 6, 2), (.imul, 1), (.iconst 2, 1), (.iadd, 1), (.iaload, 1), (.invokevirtual 80, 3), (.iload 6, 2), (.if_icmp .eq 5, 3), (.aconst_null, 1), (.areturn, 1)] := rfl
theorem uL_fill_284 : uL_fill 284 = some [true, true, true, true, true, true, true, false, false, false, false] := rfl
theorem bL_fill_324 : bL_fill 324 = [(.iinc 6 1, 3), (.goto (-315), 3)] := rfl
theorem uL_fill_324 : uL_fill 324 = none := rfl
theorem bL_fill_330 : bL_fill 330 = [(.aload 5, 2), (.areturn, 1)] := rfl
theorem uL_fill_330 : uL_fill 330 = none := rfl
theorem aL_fill_8 {lim : Nat → Prop} {sc : Nat × (Nat → Int)} : aL_fill lim sc 8 = some (2, true, 0, 0, C_L_cell lim sc) := rfl
theorem aL_fill_64 {lim : Nat → Prop} {sc : Nat × (Nat → Int)} : aL_fill lim sc 64 = some (3, true, 0, 0, C_L_draw lim sc) := rfl
theorem aL_fill_80 {lim : Nat → Prop} {sc : Nat × (Nat → Int)} : aL_fill lim sc 80 = some (5, false, 8, 0, C_X9_addTransition) := rfl
def mL_fill : Room := { frames := 10, cells := 1000, slots := 6000, locals := 322 }
/-- the row of numbers at a place of its own -/
def rowF (f : Nat → Int) (k : Nat) (q a r w : Int) : Nat → Int := fun c => if c = 10 * k + 3 then w else if c = 10 * k + 2 then r else if c = 10 * k + 1 then a else if c = 10 * k then q else f c
theorem pvUp_s {f : Nat → Nat → Int} {i k : Nat} {v : Int} : pvUp f i k v = pvSt f i (fun j => if j = k then v else f i j) := by
  have e := pvUp_st (f := f) (i := i) (k := k) (g := f i) (v := v)
  rw [pvSt_self] at e
  exact e
set_option maxRecDepth 100000 in
set_option maxHeartbeats 4000000 in
theorem okL_fill19 {lim : Nat → Prop} {sc : Nat × (Nat → Int)} {Rt : Option pvV → pvM → Nat → Prop} {SW : pvJ} (hc : pvCloG lim sc fL (aL_fill lim sc) kL 1 Rt bL_fill uL_fill SW)
    {fr slot many : Int} {t k : Nat} {z : pvM} (h60 : lim 60) (ht : lim t ∧ t ≠ 60 ∧ (pvAI t : Int) = 10 * many) (hk : (k : Int) < many) (hm : many ≤ 7) (hf : 0 ≤ fr ∧ fr ≤ 100)
    (h100 : ∀ q a r w : Int, (0 ≤ q ∧ q ≤ 2) ∧ (0 ≤ a ∧ a ≤ 2) ∧ (0 ≤ r ∧ r ≤ 2) ∧ (0 ≤ w ∧ w ≤ 2) → SW 100 [some (vR 0), some (vR 60), some (vI fr), some (vI slot), some (vI many), some (vR t), some (vI k), some (vI (fr + 6 * k)), none, none, none] [] (pvSt z.1 t (rowF (z.1 t) k q a r w), z.2) 0) :
    SW 19 [some (vR 0), some (vR 60), some (vI fr), some (vI slot), some (vI many), some (vR t), some (vI (k : Int)), none, none, none, none] [] z 0 := by
  have e60 : (t = 60) = False := by simp [ht.2.1]
  refine hc 20 _ _ _ _ _ fun _ _ _ => ?_
  clear hc
  simp only [pvStG]
  simp only [C_L_draw, e60, pvE_bipush, pvE_iload, pvLI_s, pvLd, pvE_imul, pvE_astore, pvS1, List.length_cons, List.length_nil, pvClr_i, pvClr_r, pvClr_l, pvClr_d, pvClr_f, pvClr_n, pvE_iconst, pvE_istore, pvE_icmp_ge, pvE_iload_n2, pvE_iadd, pvE_aload, pvLA_s, pvE_aload_n1, pvE_invokestatic (Ex := fun _ => none) (h0 := rfl), pvC1_s, pvC2_s, pvAf_v, pvAf_x, pvPop, pvCs, pvCat, pvPush, aL_fill_64, pvE_iastore, pvE_iaload, aL_fill_8, pvE_iushr, pvE_irem, pvE_idiv, pvE_goto, pvE_dup_i, pvE_dup_r, pvE_if_le, pvE_iinc, pvIc_s, pvE_aload_n0, pvE_iload_n3, pvE_invokevirtual, aL_fill_80, pvSh_0, pvSh_1, pvSh_2, pvSh_3, pvSh_4, pvSh_5, pvSh_6, pvSh_7, pvSh_8, pvSh_9, pvSh_10, pvSh_11, pvSh_12, pvSh_13, pvSh_14, pvSh_15, pvSh_16, pvSh_17, pvSh_18, pvSh_19, pvSh_20, pvSh_21, pvSh_22, pvSh_23, pvSh_24, pvSh_25, pvSh_26, pvSh_27, pvSh_28, pvSh_29, pvSh_30, pvSh_31, pvSh_32, pvSh_33, pvSh_34, pvSh_35, pvSh_36, pvSh_37, pvSh_38, pvE_icmp_eq, pvE_areturn, bL_fill_0, uL_fill_0, bL_fill_12, uL_fill_12, bL_fill_19, uL_fill_19, bL_fill_100, uL_fill_100, bL_fill_107, uL_fill_107, bL_fill_214, uL_fill_214, bL_fill_215, uL_fill_215, bL_fill_216, uL_fill_216, bL_fill_238, uL_fill_238, bL_fill_240, uL_fill_240, bL_fill_278, uL_fill_278, bL_fill_284, uL_fill_284, bL_fill_324, uL_fill_324, bL_fill_330, uL_fill_330, pvMk_t, pvMk_f, pvMk_n, pvRtG, pvRecv_r, pvUp_nl, pvUp_same, pvUp_ap, pvSt_ap, pvX_c, pvX_ms, pvX_mn, pvE_nil, pvEn_i, pvEn_r, pvEn_l, pvEn_0, pvEn_s, pvRt, pvRv, pvTh, pvKc, pvGo, pvTgt, Int.toNat_natCast, false_and, and_false, true_and, and_true, if_true, if_false, reduceIte, reduceCtorEq, forall_const, false_or, or_false, true_or, or_true, ne_eq, not_true_eq_false, not_false_eq_true, implies_true, false_implies, Nat.reduceAdd, Nat.reduceSub, Nat.reduceMul, Nat.reduceEqDiff, Nat.reduceLT, Nat.reduceLeDiff, Int.reduceAdd, Int.reduceSub, Int.reduceMul, Int.reduceNeg, Int.reduceToNat, Int.reduceLE, Int.reduceLT, Int.reduceEq, Int.reduceNe, and_self]
  have b0 := fun x => show 0 ≤ dwS sc x % 3 ∧ dwS sc x % 3 ≤ 2 by have := dwS_r sc x; omega
  have h9 := h100 _ _ _ _ ⟨b0 (fr + 6 * k), b0 (fr + 6 * k + 1), b0 (fr + 6 * k + 2), b0 (fr + 6 * k + 3)⟩
  have e9 : pvUp (pvUp (pvUp (pvUp z.1 t (10 * (k : Int)).toNat (dwS sc (fr + 6 * k) % 3)) t (10 * (k : Int) + 1).toNat (dwS sc (fr + 6 * k + 1) % 3)) t (10 * (k : Int) + 2).toNat (dwS sc (fr + 6 * k + 2) % 3)) t (10 * (k : Int) + 3).toNat (dwS sc (fr + 6 * k + 3) % 3) = pvSt z.1 t (rowF (z.1 t) k (dwS sc (fr + 6 * k) % 3) (dwS sc (fr + 6 * k + 1) % 3) (dwS sc (fr + 6 * k + 2) % 3) (dwS sc (fr + 6 * k + 3) % 3)) := by
    rw [show (10 * (k : Int)).toNat = 10 * k by omega, show (10 * (k : Int) + 1).toNat = 10 * k + 1 by omega, show (10 * (k : Int) + 2).toNat = 10 * k + 2 by omega, show (10 * (k : Int) + 3).toNat = 10 * k + 3 by omega]
    rw [pvUp_s (f := z.1)]
    simp only [pvUp_st]
    rfl
  rw [← e9] at h9
  clear h100 e9 b0
  repeat' apply And.intro
  all_goals first
    | exact h9
    | exact h60
    | exact ht.1
    | (unfold pvR; omega)
    | omega
/-- a constraint's three numbers -/
def conF (f : Nat → Int) (p : Nat) (d : Int) : Nat → Int := fun c => if c = p + 2 then (if d / 3 % 7 < 5 then d / 21 % 4 else 0) else if c = p + 1 then d / 3 % 7 else if c = p then d % 3 else f c
set_option maxRecDepth 100000 in
set_option maxHeartbeats 4000000 in
theorem okL_fill107 {lim : Nat → Prop} {sc : Nat × (Nat → Int)} {Rt : Option pvV → pvM → Nat → Prop} {SW : pvJ} (hc : pvCloG lim sc fL (aL_fill lim sc) kL 1 Rt bL_fill uL_fill SW)
    {fr slot many w : Int} {t xt k i : Nat} {z : pvM} (h60 : lim 60) (ht : lim t ∧ t ≠ 60 ∧ (pvAI t : Int) = 10 * many) (hk : (k : Int) < many) (hm : many ≤ 7) (hf : 0 ≤ fr ∧ fr ≤ 100) (hw : z.1 t (10 * k + 3) = w ∧ 0 ≤ w ∧ w ≤ 2) (hi : (i : Int) ≤ w)
    (h216 : ∀ d : Int, (i : Int) < w → 0 ≤ d ∧ d ≤ 2147483647 → SW 216 [some (vR 0), some (vR 60), some (vI fr), some (vI slot), some (vI many), some (vR t), some (vI k), some (vI (fr + 6 * k)), some (vR xt), some (vI i), some (vI d)] [] (pvSt z.1 t (conF (z.1 t) (10 * k + 4 + 3 * i) d), z.2) 0)
    (h278 : (i : Int) = w → SW 278 [some (vR 0), some (vR 60), some (vI fr), some (vI slot), some (vI many), some (vR t), some (vI k), none, some (vR xt), none, none] [] z 0) :
    SW 107 [some (vR 0), some (vR 60), some (vI fr), some (vI slot), some (vI many), some (vR t), some (vI (k : Int)), some (vI (fr + 6 * k)), some (vR xt), some (vI (i : Int)), none] [] z 0 := by
  have e60 : (t = 60) = False := by simp [ht.2.1]
  have e3 : z.1 t (10 * (k : Int) + 3).toNat = w := by rw [show (10 * (k : Int) + 3).toNat = 10 * k + 3 by omega]; exact hw.1
  refine hc 20 _ _ _ _ _ fun _ _ _ => ?_
  clear hc
  simp only [pvStG]
  simp only [C_L_cell, e60, e3, pvE_bipush, pvE_iload, pvLI_s, pvLd, pvE_imul, pvE_astore, pvS1, List.length_cons, List.length_nil, pvClr_i, pvClr_r, pvClr_l, pvClr_d, pvClr_f, pvClr_n, pvE_iconst, pvE_istore, pvE_icmp_ge, pvE_iload_n2, pvE_iadd, pvE_aload, pvLA_s, pvE_aload_n1, pvE_invokestatic (Ex := fun _ => none) (h0 := rfl), pvC1_s, pvC2_s, pvAf_v, pvAf_x, pvPop, pvCs, pvCat, pvPush, aL_fill_64, pvE_iastore, pvE_iaload, aL_fill_8, pvE_iushr, pvE_irem, pvE_idiv, pvE_goto, pvE_dup_i, pvE_dup_r, pvE_if_le, pvE_iinc, pvIc_s, pvE_aload_n0, pvE_iload_n3, pvE_invokevirtual, aL_fill_80, pvSh_0, pvSh_1, pvSh_2, pvSh_3, pvSh_4, pvSh_5, pvSh_6, pvSh_7, pvSh_8, pvSh_9, pvSh_10, pvSh_11, pvSh_12, pvSh_13, pvSh_14, pvSh_15, pvSh_16, pvSh_17, pvSh_18, pvSh_19, pvSh_20, pvSh_21, pvSh_22, pvSh_23, pvSh_24, pvSh_25, pvSh_26, pvSh_27, pvSh_28, pvSh_29, pvSh_30, pvSh_31, pvSh_32, pvSh_33, pvSh_34, pvSh_35, pvSh_36, pvSh_37, pvSh_38, pvE_icmp_eq, pvE_areturn, bL_fill_0, uL_fill_0, bL_fill_12, uL_fill_12, bL_fill_19, uL_fill_19, bL_fill_100, uL_fill_100, bL_fill_107, uL_fill_107, bL_fill_214, uL_fill_214, bL_fill_215, uL_fill_215, bL_fill_216, uL_fill_216, bL_fill_238, uL_fill_238, bL_fill_240, uL_fill_240, bL_fill_278, uL_fill_278, bL_fill_284, uL_fill_284, bL_fill_324, uL_fill_324, bL_fill_330, uL_fill_330, pvMk_t, pvMk_f, pvMk_n, pvRtG, pvRecv_r, pvUp_nl, pvUp_same, pvUp_ap, pvSt_ap, pvX_c, pvX_ms, pvX_mn, pvE_nil, pvEn_i, pvEn_r, pvEn_l, pvEn_0, pvEn_s, pvRt, pvRv, pvTh, pvKc, pvGo, pvTgt, Int.toNat_natCast, false_and, and_false, true_and, and_true, if_true, if_false, reduceIte, reduceCtorEq, forall_const, false_or, or_false, true_or, or_true, ne_eq, not_true_eq_false, not_false_eq_true, implies_true, false_implies, Nat.reduceAdd, Nat.reduceSub, Nat.reduceMul, Nat.reduceEqDiff, Nat.reduceLT, Nat.reduceLeDiff, Int.reduceAdd, Int.reduceSub, Int.reduceMul, Int.reduceNeg, Int.reduceToNat, Int.reduceLE, Int.reduceLT, Int.reduceEq, Int.reduceNe, and_self]
  have hd := dwS_r sc (fr + 6 * (k : Int) + 4 + i)
  unfold dwS at hd
  generalize pvUshr (clS sc (fr + 6 * (k : Int) + 4 + i)) 1 = d at hd ⊢
  have e9 : ∀ x : Int, x = (if d / 3 % 7 < 5 then d / 21 % 4 else 0) → pvUp (pvUp (pvUp z.1 t (10 * (k : Int) + 4 + 3 * (i : Int)).toNat (d % 3)) t (10 * (k : Int) + 5 + 3 * (i : Int)).toNat (d / 3 % 7)) t (10 * (k : Int) + 6 + 3 * (i : Int)).toNat x = pvSt z.1 t (conF (z.1 t) (10 * k + 4 + 3 * i) d) := by
    intro x hx
    subst hx
    rw [show (10 * (k : Int) + 4 + 3 * (i : Int)).toNat = 10 * k + 4 + 3 * i by omega, show (10 * (k : Int) + 5 + 3 * (i : Int)).toNat = 10 * k + 4 + 3 * i + 1 by omega, show (10 * (k : Int) + 6 + 3 * (i : Int)).toNat = 10 * k + 4 + 3 * i + 2 by omega]
    rw [pvUp_s (f := z.1)]
    simp only [pvUp_st]
    rfl
  have h9 : (i : Int) < w → ∀ x : Int, x = (if d / 3 % 7 < 5 then d / 21 % 4 else 0) → SW 216 [some (vR 0), some (vR 60), some (vI fr), some (vI slot), some (vI many), some (vR t), some (vI k), some (vI (fr + 6 * k)), some (vR xt), some (vI i), some (vI d)] [] (pvUp (pvUp (pvUp z.1 t (10 * (k : Int) + 4 + 3 * (i : Int)).toNat (d % 3)) t (10 * (k : Int) + 5 + 3 * (i : Int)).toNat (d / 3 % 7)) t (10 * (k : Int) + 6 + 3 * (i : Int)).toNat x, z.2) 0 := fun h y hy => by
    rw [e9 y hy]
    exact h216 d h hd
  clear h216 e9
  refine ⟨?_, ?_, ?_, ?_, fun h => h278 (by omega), fun h => ?_⟩
  all_goals first | (unfold pvR; omega) | (refine ⟨ht.1, ?_, ?_⟩ <;> omega) | skip
  have hw9 : (i : Int) < w := by omega
  repeat' apply And.intro
  all_goals first
    | exact h60
    | exact ht.1
    | (unfold pvR; omega)
    | omega
    | skip
  all_goals intro h5
  all_goals repeat' apply And.intro
  all_goals first
    | exact h9 hw9 _ (if_neg (by omega)).symm
    | exact h9 hw9 _ (if_pos (by omega)).symm
    | exact ht.1
    | (unfold pvR; omega)
    | omega
set_option maxRecDepth 100000 in
set_option maxHeartbeats 4000000 in
theorem okL_fill284 {lim : Nat → Prop} {sc : Nat × (Nat → Int)} {Rt : Option pvV → pvM → Nat → Prop} {SW : pvJ} (hc : pvCloG lim sc fL (aL_fill lim sc) kL 1 Rt bL_fill uL_fill SW)
    {fr s many q a r : Int} {t k : Nat} {z : pvM} (h0 : lim 0) (ht : lim t ∧ t ≠ 60 ∧ (pvAI t : Int) = 10 * many) (hk : (k : Int) < many) (hm : many ≤ 7) (hs : 0 ≤ s ∧ s ≤ 1)
    (hq : z.1 t (10 * k) = q ∧ z.1 t (10 * k + 1) = a ∧ z.1 t (10 * k + 2) = r) (hr : (0 ≤ q ∧ q ≤ 2) ∧ (0 ≤ a ∧ a ≤ 2) ∧ (0 ≤ r ∧ r ≤ 2))
    (hpre : hiF z ∧ ((0 ≤ z.1 17 1 ∧ z.1 17 1 ≤ 30) ∧ ∀ k : Nat, (k : Int) < z.1 17 1 → 0 ≤ z.1 18 k ∧ z.1 18 k ≤ 126) ∧ WfC (z.1 2) ∧ WfC (z.1 4)) (hn : (autC (z.1 (rwC s))).1 = k) (hrt : (rtF (z.1 18) (z.1 17 1)).1 < 0)
    (h12 : ∀ z' : pvM, frF [2, 4, 5, 9, 17, 19, 36, 37] [] z z' → reF z z' → stF z z' → autC (z'.1 (rwC s)) = adA (autC (z.1 (rwC s))) q a r (rtF (z.1 18) (z.1 17 1)).2.1 (rtF (z.1 18) (z.1 17 1)).2.2 → WfC (z'.1 (rwC s)) → z'.1 (rwC (1 - s)) = z.1 (rwC (1 - s)) → z'.1 17 1 = 0 →
      SW 12 [some (vR 0), some (vR 60), some (vI fr), some (vI s), some (vI many), some (vR t), some (vI ((k : Int) + 1)), none, none, none, none] [] z' 0) :
    SW 284 [some (vR 0), some (vR 60), some (vI fr), some (vI s), some (vI many), some (vR t), some (vI (k : Int)), none, none, none, none] [] z 0 := by
  have e60 : (t = 60) = False := by simp [ht.2.1]
  have e0 : z.1 t (10 * (k : Int)).toNat = q := by rw [show (10 * (k : Int)).toNat = 10 * k by omega]; exact hq.1
  have e1 : z.1 t (10 * (k : Int) + 1).toNat = a := by rw [show (10 * (k : Int) + 1).toNat = 10 * k + 1 by omega]; exact hq.2.1
  have e2 : z.1 t (10 * (k : Int) + 2).toNat = r := by rw [show (10 * (k : Int) + 2).toNat = 10 * k + 2 by omega]; exact hq.2.2
  refine hc 20 _ _ _ _ _ fun _ _ _ => ?_
  clear hc
  simp only [pvStG]
  simp only [C_X9_addTransition, e60, e0, e1, e2, hn, pvE_bipush, pvE_iload, pvLI_s, pvLd, pvE_imul, pvE_astore, pvS1, List.length_cons, List.length_nil, pvClr_i, pvClr_r, pvClr_l, pvClr_d, pvClr_f, pvClr_n, pvE_iconst, pvE_istore, pvE_icmp_ge, pvE_iload_n2, pvE_iadd, pvE_aload, pvLA_s, pvE_aload_n1, pvE_invokestatic (Ex := fun _ => none) (h0 := rfl), pvC1_s, pvC2_s, pvAf_v, pvAf_x, pvPop, pvCs, pvCat, pvPush, aL_fill_64, pvE_iastore, pvE_iaload, aL_fill_8, pvE_iushr, pvE_irem, pvE_idiv, pvE_goto, pvE_dup_i, pvE_dup_r, pvE_if_le, pvE_iinc, pvIc_s, pvE_aload_n0, pvE_iload_n3, pvE_invokevirtual, aL_fill_80, pvSh_0, pvSh_1, pvSh_2, pvSh_3, pvSh_4, pvSh_5, pvSh_6, pvSh_7, pvSh_8, pvSh_9, pvSh_10, pvSh_11, pvSh_12, pvSh_13, pvSh_14, pvSh_15, pvSh_16, pvSh_17, pvSh_18, pvSh_19, pvSh_20, pvSh_21, pvSh_22, pvSh_23, pvSh_24, pvSh_25, pvSh_26, pvSh_27, pvSh_28, pvSh_29, pvSh_30, pvSh_31, pvSh_32, pvSh_33, pvSh_34, pvSh_35, pvSh_36, pvSh_37, pvSh_38, pvE_icmp_eq, pvE_areturn, bL_fill_0, uL_fill_0, bL_fill_12, uL_fill_12, bL_fill_19, uL_fill_19, bL_fill_100, uL_fill_100, bL_fill_107, uL_fill_107, bL_fill_214, uL_fill_214, bL_fill_215, uL_fill_215, bL_fill_216, uL_fill_216, bL_fill_238, uL_fill_238, bL_fill_240, uL_fill_240, bL_fill_278, uL_fill_278, bL_fill_284, uL_fill_284, bL_fill_324, uL_fill_324, bL_fill_330, uL_fill_330, pvMk_t, pvMk_f, pvMk_n, pvRtG, pvRecv_r, pvUp_nl, pvUp_same, pvUp_ap, pvSt_ap, pvX_c, pvX_ms, pvX_mn, pvE_nil, pvEn_i, pvEn_r, pvEn_l, pvEn_0, pvEn_s, pvRt, pvRv, pvTh, pvKc, pvGo, pvTgt, Int.toNat_natCast, false_and, and_false, true_and, and_true, if_true, if_false, reduceIte, reduceCtorEq, forall_const, false_or, or_false, true_or, or_true, ne_eq, not_true_eq_false, not_false_eq_true, implies_true, false_implies, Nat.reduceAdd, Nat.reduceSub, Nat.reduceMul, Nat.reduceEqDiff, Nat.reduceLT, Nat.reduceLeDiff, Int.reduceAdd, Int.reduceSub, Int.reduceMul, Int.reduceNeg, Int.reduceToNat, Int.reduceLE, Int.reduceLT, Int.reduceEq, Int.reduceNe, and_self]
  have p1 : ∀ x : Int, 0 ≤ x ∧ x ≤ 200 → pvR x := fun x hx => by unfold pvR; omega
  refine ⟨p1 _ (by omega), ⟨ht.1, by omega, by omega⟩, p1 _ (by omega), p1 _ (by omega), p1 _ (by omega), ⟨ht.1, by omega, by omega⟩, p1 _ (by omega), p1 _ (by omega), p1 _ (by omega), ⟨ht.1, by omega, by omega⟩, h0, hpre, fun h => h ⟨hs, by omega, by omega, by omega⟩, fun _ z' i1 i2 => ⟨fun h => by omega, fun _ h => by omega, fun _ _ f1 f2 f3 f4 f5 f6 => ⟨p1 _ (by omega), h12 z' f1 f2 f3 f4 f5 f6 i1⟩⟩⟩
