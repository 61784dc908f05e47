/-! branches share all valuations: the law's own check -/
def C_L_areBranches (lim : Nat → Prop) (sc : Nat × (Nat → Int)) : pvC
  | [.inr (.inr (.inl id)), .inl s], z, Q => id = 0 ∧ (lim 0 ∧ (0 ≤ s ∧ s ≤ 1) ∧ pzF z) ∧ ∀ z' : pvM, pyF z s z' → Q (.inl (some (vI 1))) z'
  | _, _, _ => False
def bL_areBranches : Nat → List (Instr × Nat)
  | 0 => [(.aload_n 0, 1), (.iload_n 1, 1), (.invokevirtual 155, 3), (.istore_n 2, 1), (.iconst 0, 1), (.istore_n 3, 1), (.iconst 0, 1), (.istore 4, 2)]
  | 11 => [(.iload 4, 2), (.iload_n 2, 1), (.if_icmp .ge 164, 3), (.iconst 0, 1), (.istore 5, 2)]
  | 20 => [(.iload 5, 2), (.iload 4, 2), (.if_icmp .ge 28, 3), (.aload_n 0, 1), (.iload_n 1, 1), (.iload 4, 2), (.invokevirtual 158, 3), (.aload_n 0, 1), (.iload_n 1, 1), (.iload 5, 2), (.invokevirtual 158, 3), (.if_icmp .ne 5, 3), (.iconst 0, 1), (.ireturn, 1)]
  | 46 => [(.iinc 5 1, 3), (.goto (-29), 3)]
  | 52 => [(.iconst 0, 1), (.istore 5, 2)]
  | 55 => [(.iload 5, 2), (.iconst 3, 1), (.if_icmp .ge 114, 3), (.iconst 0, 1), (.istore 6, 2), (.iconst 0, 1), (.istore 7, 2), (.aload_n 0, 1), (.iload_n 1, 1), (.iload 4, 2), (.iload 5, 2), (.invokevirtual 161, 3), (.istore 8, 2), (.iconst 0, 1), (.istore 9, 2)]
  | 81 => [(.iload 9, 2), (.iload 8, 2), (.if_icmp .ge 66, 3), (.aload_n 0, 1), (.iload_n 1, 1), (.iload 4, 2), (.iload 5, 2), (.iload 9, 2), (.invokevirtual 165, 3), (.istore 10, 2), (.iload 10, 2), (.iload_n 2, 1), (.if_icmp .ge 14, 3), (.iload 7, 2), (.iload 10, 2), (.ishr, 1), (.iconst 1, 1), (.iand, 1), (.iconst 1, 1), (.if_icmp .ne 5, 3)]
  | 118 => [(.iconst 0, 1), (.ireturn, 1)]
  | 120 => [(.iload 7, 2), (.iconst 1, 1), (.iload 10, 2), (.ishl, 1), (.ior, 1), (.istore 7, 2), (.iload 6, 2), (.aload_n 0, 1), (.iload_n 1, 1), (.iload 4, 2), (.iload 5, 2), (.iload 9, 2), (.invokevirtual 168, 3), (.iadd, 1), (.istore 6, 2), (.iinc 9 1, 3), (.goto (-67), 3)]
  | 151 => [(.iload 6, 2), (.sipush 216, 3), (.if_icmp .eq 5, 3), (.iconst 0, 1), (.ireturn, 1)]
  | 161 => [(.iload_n 3, 1), (.iload 8, 2), (.iadd, 1), (.istore_n 3, 1), (.iinc 5 1, 3), (.goto (-114), 3)]
  | 172 => [(.iinc 4 1, 3), (.goto (-164), 3)]
  | 178 => [(.aload_n 0, 1), (.iload_n 1, 1), (.invokevirtual 171, 3), (.iload_n 3, 1), (.i2f, 1), (.iconst 3, 1), (.iload_n 2, 1), (.imul, 1), (.i2f, 1), (.fdiv, 1), (.fcmp .l, 1), (.ifCond .ne 7, 3), (.iconst 1, 1), (.goto 4, 3)]
  | 198 => [(.iconst 0, 1)]
  | 199 => [(.ireturn, 1)]
  | _ => []
def uL_areBranches : Nat → Option (List Bool)
  | 11 => some [true, true, true, true, true, false, false, false, false, false, false]
  | 20 => some [true, true, true, true, true, true, false, false, false, false, false]
  | 55 => some [true, true, true, true, true, true, false, false, false, false, false]
  | 81 => some [true, true, true, true, true, true, true, true, true, true, false]
  | _ => none
def aL_areBranches (lim : Nat → Prop) (sc : Nat × (Nat → Int)) : pvCa
  | 155 => some (2, false, 8, 0, C_X9_deterministicStates)
  | 158 => some (3, false, 8, 0, C_X9_deterministicSet)
  | 161 => some (4, false, 8, 0, C_X9_branches)
  | 165 => some (5, false, 8, 0, C_X9_branchTarget)
  | 168 => some (5, false, 8, 0, C_X9_branchValuations)
  | 171 => some (2, false, 8, 0, C_X9_averageBranches)
  | _ => none
theorem bL_areBranches_0 : bL_areBranches 0 = [(.aload_n 0, 1), (.iload_n 1, 1), (.invokevirtual 155, 3), (.istore_n 2, 1), (.iconst 0, 1), (.istore_n 3, 1), (.iconst 0, 1), (.istore 4, 2)] := rfl
theorem uL_areBranches_0 : uL_areBranches 0 = none := rfl
theorem bL_areBranches_11 : bL_areBranches 11 = [(.iload 4, 2), (.iload_n 2, 1), (.if_icmp .ge 164, 3), (.iconst 0, 1), (.istore 5, 2)] := rfl
theorem uL_areBranches_11 : uL_areBranches 11 = some [true, true, true, true, true, false, false, false, false, false, false] := rfl
theorem bL_areBranches_20 : bL_areBranches 20 = [(.iload 5, 2), (.iload 4, 2), (.if_icmp .ge 28, 3), (.aload_n 0, 1), (.iload_n 1, 1), (.iload 4, 2), (.invokevirtual 158, 3), (.aload_n 0, 1), (.iload_n 1, 1), (.iload 5, 2), (.invokevirtual 158, 3), (.if_icmp .ne 5, 3), (.iconst 0, 1), (.ireturn, 1)] := rfl
theorem uL_areBranches_20 : uL_areBranches 20 = some [true, true, true, true, true, true, false, false, false, false, false] := rfl
theorem bL_areBranches_46 : bL_areBranches 46 = [(.iinc 5 1, 3), (.goto (-29), 3)] := rfl
theorem uL_areBranches_46 : uL_areBranches 46 = none := rfl
theorem bL_areBranches_52 : bL_areBranches 52 = [(.iconst 0, 1), (.istore 5, 2)] := rfl
theorem uL_areBranches_52 : uL_areBranches 52 = none := rfl
theorem bL_areBranches_55 : bL_areBranches 55 = [(.iload 5, 2), (.iconst 3, 1), (.if_icmp .ge 114, 3), (.iconst 0, 1), (.istore 6, 2), (.iconst 0, 1), (.istore 7, 2), (.aload_n 0, 1), (.iload_n 1, 1), (.iload 4, 2), (.iload 5, 2), (.invokevirtual 161, 3), (.istore 8, 2), (.iconst 0, 1), (.istore 9, 2)] := rfl
theorem uL_areBranches_55 : uL_areBranches 55 = some [true, true, true, true, true, true, false, false, false, false, false] := rfl
theorem bL_areBranches_81 : bL_areBranches 81 = [(.iload 9, 2), (.iload 8, 2), (.if_icmp .ge 66, 3), (.aload_n 0, 1), (.iload_n 1, 1), (.iload 4, 2), (.iload 5, 2), (.iload 9, 2), (.invokevirtual 165, 3), (.istore 10, 2), (.iload 10, 2), (.iload_n 2, 1), (.if_icmp .ge 14, 3), (.iload 7, 2), (.iload 10, 2), (.ishr, 1), (.iconst 1, 1), (.iand, 1), (.iconst 1, 1), (.if_icmp .ne 5, 3)] := rfl
theorem uL_areBranches_81 : uL_areBranches 81 = some [true, true, true, true, true, true, true, true, true, true, false] := rfl
theorem bL_areBranches_118 : bL_areBranches 118 = [(.iconst 0, 1), (.ireturn, 1)] := rfl
theorem uL_areBranches_118 : uL_areBranches 118 = none := rfl
theorem bL_areBranches_120 : bL_areBranches 120 = [(.iload 7, 2), (.iconst 1, 1), (.iload 10, 2), (.ishl, 1), (.ior, 1), (.istore 7, 2), (.iload 6, 2), (.aload_n 0, 1), (.iload_n 1, 1), (.iload 4, 2), (.iload 5, 2), (.iload 9, 2), (.invokevirtual 168, 3), (.iadd, 1), (.istore 6, 2), (.iinc 9 1, 3), (.goto (-67), 3)] := rfl
theorem uL_areBranches_120 : uL_areBranches 120 = none := rfl
theorem bL_areBranches_151 : bL_areBranches 151 = [(.iload 6, 2), (.sipush 216, 3), (.if_icmp .eq 5, 3), (.iconst 0, 1), (.ireturn, 1)] := rfl
theorem uL_areBranches_151 : uL_areBranches 151 = none := rfl
theorem bL_areBranches_161 : bL_areBranches 161 = [(.iload_n 3, 1), (.iload 8, 2), (.iadd, 1), (.istore_n 3, 1), (.iinc 5 1, 3), (.goto (-114), 3)] := rfl
theorem uL_areBranches_161 : uL_areBranches 161 = none := rfl
theorem bL_areBranches_172 : bL_areBranches 172 = [(.iinc 4 1, 3), (.goto (-164), 3)] := rfl
theorem uL_areBranches_172 : uL_areBranches 172 = none := rfl
theorem bL_areBranches_178 : bL_areBranches 178 = [(.aload_n 0, 1), (.iload_n 1, 1), (.invokevirtual 171, 3), (.iload_n 3, 1), (.i2f, 1), (.iconst 3, 1), (.iload_n 2, 1), (.imul, 1), (.i2f, 1), (.fdiv, 1), (.fcmp .l, 1), (.ifCond .ne 7, 3), (.iconst 1, 1), (.goto 4, 3)] := rfl
theorem uL_areBranches_178 : uL_areBranches 178 = none := rfl
theorem bL_areBranches_198 : bL_areBranches 198 = [(.iconst 0, 1)] := rfl
theorem uL_areBranches_198 : uL_areBranches 198 = none := rfl
theorem bL_areBranches_199 : bL_areBranches 199 = [(.ireturn, 1)] := rfl
theorem uL_areBranches_199 : uL_areBranches 199 = none := rfl
theorem aL_areBranches_155 {lim : Nat → Prop} {sc : Nat × (Nat → Int)} : aL_areBranches lim sc 155 = some (2, false, 8, 0, C_X9_deterministicStates) := rfl
theorem aL_areBranches_158 {lim : Nat → Prop} {sc : Nat × (Nat → Int)} : aL_areBranches lim sc 158 = some (3, false, 8, 0, C_X9_deterministicSet) := rfl
theorem aL_areBranches_161 {lim : Nat → Prop} {sc : Nat × (Nat → Int)} : aL_areBranches lim sc 161 = some (4, false, 8, 0, C_X9_branches) := rfl
theorem aL_areBranches_165 {lim : Nat → Prop} {sc : Nat × (Nat → Int)} : aL_areBranches lim sc 165 = some (5, false, 8, 0, C_X9_branchTarget) := rfl
theorem aL_areBranches_168 {lim : Nat → Prop} {sc : Nat × (Nat → Int)} : aL_areBranches lim sc 168 = some (5, false, 8, 0, C_X9_branchValuations) := rfl
theorem aL_areBranches_171 {lim : Nat → Prop} {sc : Nat × (Nat → Int)} : aL_areBranches lim sc 171 = some (2, false, 8, 0, C_X9_averageBranches) := rfl
def mL_areBranches : Room := { frames := 10, cells := 1, slots := 6, locals := 184 }
set_option maxRecDepth 100000 in
set_option maxHeartbeats 4000000 in
theorem okL_areBranches (lim : Nat → Prop) (sc : Nat × (Nat → Int)) : pvOkG lim sc fL (aL_areBranches lim sc) kL 1 0 (some .boolean) bL_areBranches uL_areBranches 11 (C_L_areBranches lim sc) := by
  intro Q SW hc as z h hS hz
  unfold C_L_areBranches at h
  split at h
  · rename_i id s
    obtain ⟨rfl, ⟨hl, hs, hpz⟩, ho⟩ := h
    obtain ⟨A, hA⟩ : ∃ A, autC (z.1 (rwC s)) = A := ⟨_, rfl⟩
    have hw : WfA A := by rw [← hA]; exact (hpz s hs).1.1
    have hok := dsF_ok hw
    have hlen := okL_len hok
    have hpos := (dsF_0 A).1
    obtain ⟨n, hn⟩ : ∃ n : Nat, (dsF A).length = n := ⟨_, rfl⟩
    have hr : ∀ z1, pyF z s z1 → autC (z1.1 (rwC s)) = A := fun z1 h1 => by rw [py_r h1, hA]
    have h178 : ∀ z1, pyF z s z1 → SW 11 [some (vR 0), some (vI s), some (vI (n : Int)), some (vI (baK A n)), some (vI (n : Int)), none, none, none, none, none, none] [] z1 0 := by
      intro z1 h1
      have hr1 := hr z1 h1
      have hba := baK_r hw n
      have hav : vf_n32 (avD (baK A n) (3 * (n : Int))) := avD_n (by omega)
      have hcm := fcmp_s hav
      have e : FP.fdiv (FP.i2f (Int32.ofInt (baK A n))) (FP.i2f (Int32.ofInt (3 * (n : Int)))) = avD (baK A n) (3 * (n : Int)) := rfl
      refine hc 20 _ _ _ _ _ fun _ _ _ => ?_
      clear hc hS hz
      simp only [pvStG]
      simp only [C_X9_averageBranches, C_X9_deterministicSet, pvE_aload_n0, pvLA_s, pvLd, pvE_iload_n1, pvLI_s, pvE_invokevirtual, pvC1_s, pvC2_s, pvAf_v, pvAf_x, pvPop, pvCs, pvCat, pvPush, aL_areBranches_155, pvSh_0, pvSh_1, pvSh_2, pvSh_3, pvSh_4, pvSh_5, pvSh_6, pvSh_7, pvSh_8, pvSh_9, pvSh_10, pvSh_11, pvSh_12, pvSh_13, pvSh_14, pvSh_15, pvSh_16, pvSh_17, pvSh_18, pvSh_19, pvSh_20, pvSh_21, pvSh_22, pvSh_23, pvSh_24, pvSh_25, pvSh_26, pvSh_27, pvSh_28, pvSh_29, pvSh_30, pvSh_31, pvSh_32, pvSh_33, pvSh_34, pvSh_35, pvSh_36, pvSh_37, pvSh_38, pvE_istore_n2, pvS1, List.length_cons, List.length_nil, pvClr_i, pvClr_r, pvClr_l, pvClr_d, pvClr_f, pvClr_n, pvE_iconst, pvE_istore_n3, pvE_istore, pvE_iload, pvE_iload_n2, pvE_icmp_ge, aL_areBranches_158, pvE_icmp_ne, pvE_ireturn, pvE_iinc, pvIc_s, pvE_goto, aL_areBranches_161, aL_areBranches_165, pvE_ishr, pvE_iand, pvE_ishl, pvE_ior, aL_areBranches_168, pvE_iadd, pvE_sipush, pvE_icmp_eq, pvE_iload_n3, aL_areBranches_171, pvE_i2f, pvE_imul, pvE_fdiv, pvE_fcmp, pvE_if_ne, bL_areBranches_0, uL_areBranches_0, bL_areBranches_11, uL_areBranches_11, bL_areBranches_20, uL_areBranches_20, bL_areBranches_46, uL_areBranches_46, bL_areBranches_52, uL_areBranches_52, bL_areBranches_55, uL_areBranches_55, bL_areBranches_81, uL_areBranches_81, bL_areBranches_118, uL_areBranches_118, bL_areBranches_120, uL_areBranches_120, bL_areBranches_151, uL_areBranches_151, bL_areBranches_161, uL_areBranches_161, bL_areBranches_172, uL_areBranches_172, bL_areBranches_178, uL_areBranches_178, bL_areBranches_198, uL_areBranches_198, bL_areBranches_199, uL_areBranches_199, pvMk_t, pvMk_f, pvMk_n, pvRtG, pvRecv_r, pvUp_nl, pvUp_same, pvUp_ap, pvSt_ap, pvX_c, pvX_ms, pvX_mn, pvE_nil, pvEn_i, pvEn_r, pvEn_l, pvEn_0, pvEn_s, pvRt, pvRv, pvTh, pvKc, pvGo, pvTgt, Int.toNat_natCast, false_and, and_false, true_and, and_true, if_true, if_false, reduceIte, reduceCtorEq, forall_const, false_or, or_false, true_or, or_true, ne_eq, not_true_eq_false, not_false_eq_true, implies_true, false_implies, Nat.reduceAdd, Nat.reduceSub, Nat.reduceMul, Nat.reduceEqDiff, Nat.reduceLT, Nat.reduceLeDiff, Int.reduceAdd, Int.reduceSub, Int.reduceMul, Int.reduceNeg, Int.reduceToNat, Int.reduceLE, Int.reduceLT, Int.reduceEq, Int.reduceNe, and_self]
      simp only [hr1, hn, e]
      clear e
      generalize avD (baK A n) (3 * (n : Int)) = r at hav hcm ⊢
      simp only [hcm]
      have e0 : (Op.cmpValue (some .eq) .l).toInt = 0 := rfl
      simp only [e0, not_true_eq_false, false_implies, true_and, and_true, forall_const, true_implies]
      have q1 := fun z2 h2 => ho z2 (py_t h1 h2)
      have q2 := h1.2.1
      clear h1 ho hr hr1 hcm e0
      (repeat' first | with_reducible apply And.intro | with_reducible intro _)
      all_goals first
        | omega
        | assumption
        | exact hav
        | exact q2
        | (exfalso; omega)
        | exact q1 _ (by assumption)
        | trivial
    have hl216 : ∀ i : Nat, i < n → ∀ a : Nat, a < 3 → okL (brF A (ndF (dsF A) i) (a : Int)) ∧ ∀ j, j < (brF A (ndF (dsF A) i) (a : Int)).length → (0 ≤ ixF (dsF A) (ndF (brF A (ndF (dsF A) i) (a : Int)) j) ∧ ixF (dsF A) (ndF (brF A (ndF (dsF A) i) (a : Int)) j) < n) ∧ ∀ j', j' < j → ixF (dsF A) (ndF (brF A (ndF (dsF A) i) (a : Int)) j') ≠ ixF (dsF A) (ndF (brF A (ndF (dsF A) i) (a : Int)) j) := by
      intro i hi a ha
      have hb := brK_ok hw (ndF (dsF A) i) (a : Int) nVal
      have hds : ∀ x, x ∈ brF A (ndF (dsF A) i) (a : Int) → x ∈ dsF A := fun x hx => brK_ds hw (ndF_m (by omega)) (by omega) (Nat.le_of_eq nVal_eq) hx
      refine ⟨hb, fun j hj => ⟨?_, fun j' hj' e => ?_⟩⟩
      · have := ixF_r (hds _ (ndF_m hj))
        omega
      · have := ixF_inj (hds _ (ndF_m (show j' < (brF A (ndF (dsF A) i) (a : Int)).length by omega))) (hds _ (ndF_m hj)) e
        have := ndF_inj hb.1 (show j' < (brF A (ndF (dsF A) i) (a : Int)).length by omega) hj this
        omega
    have h81 : ∀ (i a : Nat), i < n → a < 3 → ∀ al : Int, (0 ≤ al ∧ al ≤ 1000) → (∀ z2, pyF z s z2 → SW 55 [some (vR 0), some (vI s), some (vI (n : Int)), some (vI (al + (brF A (ndF (dsF A) i) (a : Int)).length)), some (vI (i : Int)), some (vI ((a : Int) + 1)), none, none, none, none, none] [] z2 0) →
        ∀ (m b : Nat), b + m = (brF A (ndF (dsF A) i) (a : Int)).length → ∀ (z1 : pvM) (T : Int), pyF z s z1 → seP T (liF (fun j => ixF (dsF A) (ndF (brF A (ndF (dsF A) i) (a : Int)) j)) b) →
        SW 81 [some (vR 0), some (vI s), some (vI (n : Int)), some (vI al), some (vI (i : Int)), some (vI (a : Int)), some (vI (suS (fun j => cvK A (ndF (dsF A) i) (a : Int) (ndF (brF A (ndF (dsF A) i) (a : Int)) j) nVal) b)), some (vI T), some (vI ((brF A (ndF (dsF A) i) (a : Int)).length : Int)), some (vI (b : Int)), none] [] z1 0 := by
      intro i a hi ha al hal hnext m
      obtain ⟨hbr, hf⟩ := hl216 i hi a ha
      have hbl := okL_len hbr
      have hall := br_all hw (ndF (dsF A) i) (a : Int)
      have hcv : ∀ j, 0 ≤ cvK A (ndF (dsF A) i) (a : Int) (ndF (brF A (ndF (dsF A) i) (a : Int)) j) nVal ∧ cvK A (ndF (dsF A) i) (a : Int) (ndF (brF A (ndF (dsF A) i) (a : Int)) j) nVal ≤ 216 := fun j => by
        have := cvK_r A (ndF (dsF A) i) (a : Int) (ndF (brF A (ndF (dsF A) i) (a : Int)) j) nVal
        rw [nVal_eq] at this ⊢
        omega
      have hsum : ∀ b, b ≤ (brF A (ndF (dsF A) i) (a : Int)).length → 0 ≤ suS (fun j => cvK A (ndF (dsF A) i) (a : Int) (ndF (brF A (ndF (dsF A) i) (a : Int)) j) nVal) b ∧ suS (fun j => cvK A (ndF (dsF A) i) (a : Int) (ndF (brF A (ndF (dsF A) i) (a : Int)) j) nVal) b ≤ 216 := fun b hb => by
        have h1 := suS_m (f := fun j => cvK A (ndF (dsF A) i) (a : Int) (ndF (brF A (ndF (dsF A) i) (a : Int)) j) nVal) (fun j => (hcv j).1) (Nat.zero_le b)
        have h2 := suS_m (f := fun j => cvK A (ndF (dsF A) i) (a : Int) (ndF (brF A (ndF (dsF A) i) (a : Int)) j) nVal) (fun j => (hcv j).1) hb
        exact ⟨h1, by omega⟩
      induction m with
      | zero =>
        intro b hb z1 T h1 hT
        obtain rfl : b = (brF A (ndF (dsF A) i) (a : Int)).length := by omega
        rw [hall]
        have hr1 := hr z1 h1
        have q := hnext z1 h1
        refine hc 20 _ _ _ _ _ fun _ _ _ => ?_
        clear hc hS hz h178
        simp only [pvStG]
        simp only [C_X9_branchTarget, C_X9_branchValuations, pvE_aload_n0, pvLA_s, pvLd, pvE_iload_n1, pvLI_s, pvE_invokevirtual, pvC1_s, pvC2_s, pvAf_v, pvAf_x, pvPop, pvCs, pvCat, pvPush, aL_areBranches_155, pvSh_0, pvSh_1, pvSh_2, pvSh_3, pvSh_4, pvSh_5, pvSh_6, pvSh_7, pvSh_8, pvSh_9, pvSh_10, pvSh_11, pvSh_12, pvSh_13, pvSh_14, pvSh_15, pvSh_16, pvSh_17, pvSh_18, pvSh_19, pvSh_20, pvSh_21, pvSh_22, pvSh_23, pvSh_24, pvSh_25, pvSh_26, pvSh_27, pvSh_28, pvSh_29, pvSh_30, pvSh_31, pvSh_32, pvSh_33, pvSh_34, pvSh_35, pvSh_36, pvSh_37, pvSh_38, pvE_istore_n2, pvS1, List.length_cons, List.length_nil, pvClr_i, pvClr_r, pvClr_l, pvClr_d, pvClr_f, pvClr_n, pvE_iconst, pvE_istore_n3, pvE_istore, pvE_iload, pvE_iload_n2, pvE_icmp_ge, aL_areBranches_158, pvE_icmp_ne, pvE_ireturn, pvE_iinc, pvIc_s, pvE_goto, aL_areBranches_161, aL_areBranches_165, pvE_ishr, pvE_iand, pvE_ishl, pvE_ior, aL_areBranches_168, pvE_iadd, pvE_sipush, pvE_icmp_eq, pvE_iload_n3, aL_areBranches_171, pvE_i2f, pvE_imul, pvE_fdiv, pvE_fcmp, pvE_if_ne, bL_areBranches_0, uL_areBranches_0, bL_areBranches_11, uL_areBranches_11, bL_areBranches_20, uL_areBranches_20, bL_areBranches_46, uL_areBranches_46, bL_areBranches_52, uL_areBranches_52, bL_areBranches_55, uL_areBranches_55, bL_areBranches_81, uL_areBranches_81, bL_areBranches_118, uL_areBranches_118, bL_areBranches_120, uL_areBranches_120, bL_areBranches_151, uL_areBranches_151, bL_areBranches_161, uL_areBranches_161, bL_areBranches_172, uL_areBranches_172, bL_areBranches_178, uL_areBranches_178, bL_areBranches_198, uL_areBranches_198, bL_areBranches_199, uL_areBranches_199, pvMk_t, pvMk_f, pvMk_n, pvRtG, pvRecv_r, pvUp_nl, pvUp_same, pvUp_ap, pvSt_ap, pvX_c, pvX_ms, pvX_mn, pvE_nil, pvEn_i, pvEn_r, pvEn_l, pvEn_0, pvEn_s, pvRt, pvRv, pvTh, pvKc, pvGo, pvTgt, Int.toNat_natCast, false_and, and_false, true_and, and_true, if_true, if_false, reduceIte, reduceCtorEq, forall_const, false_or, or_false, true_or, or_true, ne_eq, not_true_eq_false, not_false_eq_true, implies_true, false_implies, Nat.reduceAdd, Nat.reduceSub, Nat.reduceMul, Nat.reduceEqDiff, Nat.reduceLT, Nat.reduceLeDiff, Int.reduceAdd, Int.reduceSub, Int.reduceMul, Int.reduceNeg, Int.reduceToNat, Int.reduceLE, Int.reduceLT, Int.reduceEq, Int.reduceNe, and_self]
        (repeat' (first | with_reducible apply And.intro | intro _))
        all_goals first
          | omega
          | assumption
          | exact q
          | (exfalso; omega)
      | succ m ih =>
        intro b hb z1 T h1 hT
        have hr1 := hr z1 h1
        obtain ⟨f1, f2⟩ := hf b (by omega)
        have hTr := hT.1
        have hbit : btF T (ixF (dsF A) (ndF (brF A (ndF (dsF A) i) (a : Int)) b)) = false := by
          rw [seP_bit hT (by omega)]
          refine decide_eq_false fun hm => ?_
          obtain ⟨j, hj, e⟩ := liF_m.mp hm
          exact f2 j hj e
        have hbt := bt_eq (s := T) (q := ixF (dsF A) (ndF (brF A (ndF (dsF A) i) (a : Int)) b)) (by omega)
        rw [hbit] at hbt
        have hT2 := seP_s hT (j := ixF (dsF A) (ndF (brF A (ndF (dsF A) i) (a : Int)) b)) (by omega)
        rw [ins_li (f := fun j => ixF (dsF A) (ndF (brF A (ndF (dsF A) i) (a : Int)) j)) f2] at hT2
        have q := fun z2 h2 => ih (b + 1) (by omega) z2 _ h2 hT2
        simp only [suS] at q
        have hs1 := hsum b (by omega)
        have hs2 := hcv b
        have hin : (0 ≤ (i : Int) ∧ (i : Int) < n) ∧ 0 ≤ (a : Int) ∧ (a : Int) ≤ 2 := by omega
        have hbn : 0 ≤ (b : Int) ∧ (b : Int) < ((brF A (ndF (dsF A) i) (a : Int)).length : Int) := by omega
        refine hc 20 _ _ _ _ _ fun _ _ _ => ?_
        clear hc hS hz h178 ih
        simp only [pvStG]
        simp only [C_X9_branchTarget, C_X9_branchValuations, pvE_aload_n0, pvLA_s, pvLd, pvE_iload_n1, pvLI_s, pvE_invokevirtual, pvC1_s, pvC2_s, pvAf_v, pvAf_x, pvPop, pvCs, pvCat, pvPush, aL_areBranches_155, pvSh_0, pvSh_1, pvSh_2, pvSh_3, pvSh_4, pvSh_5, pvSh_6, pvSh_7, pvSh_8, pvSh_9, pvSh_10, pvSh_11, pvSh_12, pvSh_13, pvSh_14, pvSh_15, pvSh_16, pvSh_17, pvSh_18, pvSh_19, pvSh_20, pvSh_21, pvSh_22, pvSh_23, pvSh_24, pvSh_25, pvSh_26, pvSh_27, pvSh_28, pvSh_29, pvSh_30, pvSh_31, pvSh_32, pvSh_33, pvSh_34, pvSh_35, pvSh_36, pvSh_37, pvSh_38, pvE_istore_n2, pvS1, List.length_cons, List.length_nil, pvClr_i, pvClr_r, pvClr_l, pvClr_d, pvClr_f, pvClr_n, pvE_iconst, pvE_istore_n3, pvE_istore, pvE_iload, pvE_iload_n2, pvE_icmp_ge, aL_areBranches_158, pvE_icmp_ne, pvE_ireturn, pvE_iinc, pvIc_s, pvE_goto, aL_areBranches_161, aL_areBranches_165, pvE_ishr, pvE_iand, pvE_ishl, pvE_ior, aL_areBranches_168, pvE_iadd, pvE_sipush, pvE_icmp_eq, pvE_iload_n3, aL_areBranches_171, pvE_i2f, pvE_imul, pvE_fdiv, pvE_fcmp, pvE_if_ne, bL_areBranches_0, uL_areBranches_0, bL_areBranches_11, uL_areBranches_11, bL_areBranches_20, uL_areBranches_20, bL_areBranches_46, uL_areBranches_46, bL_areBranches_52, uL_areBranches_52, bL_areBranches_55, uL_areBranches_55, bL_areBranches_81, uL_areBranches_81, bL_areBranches_118, uL_areBranches_118, bL_areBranches_120, uL_areBranches_120, bL_areBranches_151, uL_areBranches_151, bL_areBranches_161, uL_areBranches_161, bL_areBranches_172, uL_areBranches_172, bL_areBranches_178, uL_areBranches_178, bL_areBranches_198, uL_areBranches_198, bL_areBranches_199, uL_areBranches_199, pvMk_t, pvMk_f, pvMk_n, pvRtG, pvRecv_r, pvUp_nl, pvUp_same, pvUp_ap, pvSt_ap, pvX_c, pvX_ms, pvX_mn, pvE_nil, pvEn_i, pvEn_r, pvEn_l, pvEn_0, pvEn_s, pvRt, pvRv, pvTh, pvKc, pvGo, pvTgt, Int.toNat_natCast, false_and, and_false, true_and, and_true, if_true, if_false, reduceIte, reduceCtorEq, forall_const, false_or, or_false, true_or, or_true, ne_eq, not_true_eq_false, not_false_eq_true, implies_true, false_implies, Nat.reduceAdd, Nat.reduceSub, Nat.reduceMul, Nat.reduceEqDiff, Nat.reduceLT, Nat.reduceLeDiff, Int.reduceAdd, Int.reduceSub, Int.reduceMul, Int.reduceNeg, Int.reduceToNat, Int.reduceLE, Int.reduceLT, Int.reduceEq, Int.reduceNe, and_self]
        simp only [hr1, hn, Int.toNat_natCast, hbt]
        have key : ∀ z2, pyF z1 s z2 → (autC (z2.1 (rwC s)) = A ∧ pzF z2) ∧ pyF z s z2 := fun z2 h2 => ⟨⟨hr z2 (py_t h1 h2), h2.2.1⟩, py_t h1 h2⟩
        have hpz1 := h1.2.1
        have r1 : pvR 1 := ⟨by decide, by decide⟩
        refine ⟨fun h9 => absurd h9 (by omega), fun _ => ⟨hl, hpz1, fun h9 => h9 hs, fun _ z2 g1 => ⟨fun _ => ⟨fun h9 => absurd h9 (by omega), fun _ => ⟨r1, r1, fun _ => ⟨r1, hl, (key z2 g1).1.2, fun h9 => h9 hs, fun _ z3 g2 => ?_⟩, fun h9 => (h9 (by simp)).elim⟩⟩, fun h9 => (h9 ⟨hin, hbn⟩).elim⟩⟩⟩
        simp only [(key z2 g1).1.1, hn]
        exact ⟨fun _ => ⟨⟨by omega, by omega⟩, ⟨by omega, by omega⟩, q z3 (py_t (key z2 g1).2 g2)⟩, fun h9 => (h9 ⟨hin, hbn⟩).elim⟩
    have h55 : ∀ (i : Nat), i < n → (∀ z2, pyF z s z2 → SW 11 [some (vR 0), some (vI s), some (vI (n : Int)), some (vI (baK A (i + 1))), some (vI ((i : Int) + 1)), none, none, none, none, none, none] [] z2 0) →
        ∀ (m a : Nat), a + m = 3 → ∀ z1, pyF z s z1 → SW 55 [some (vR 0), some (vI s), some (vI (n : Int)), some (vI (baK A i + blS A (ndF (dsF A) i) a)), some (vI (i : Int)), some (vI (a : Int)), none, none, none, none, none] [] z1 0 := by
      intro i hi hnext m
      have hba := baK_r hw i
      have hbl := blS_r hw (ndF (dsF A) i)
      induction m with
      | zero =>
        intro a ha z1 h1
        obtain rfl : a = 3 := by omega
        have hba2 := baK_r hw (i + 1)
        rw [blS_3]
        have q := hnext z1 h1
        refine hc 20 _ _ _ _ _ fun _ _ _ => ?_
        clear hc hS hz h178 h81
        simp only [pvStG]
        simp only [C_X9_branches, pvE_aload_n0, pvLA_s, pvLd, pvE_iload_n1, pvLI_s, pvE_invokevirtual, pvC1_s, pvC2_s, pvAf_v, pvAf_x, pvPop, pvCs, pvCat, pvPush, aL_areBranches_155, pvSh_0, pvSh_1, pvSh_2, pvSh_3, pvSh_4, pvSh_5, pvSh_6, pvSh_7, pvSh_8, pvSh_9, pvSh_10, pvSh_11, pvSh_12, pvSh_13, pvSh_14, pvSh_15, pvSh_16, pvSh_17, pvSh_18, pvSh_19, pvSh_20, pvSh_21, pvSh_22, pvSh_23, pvSh_24, pvSh_25, pvSh_26, pvSh_27, pvSh_28, pvSh_29, pvSh_30, pvSh_31, pvSh_32, pvSh_33, pvSh_34, pvSh_35, pvSh_36, pvSh_37, pvSh_38, pvE_istore_n2, pvS1, List.length_cons, List.length_nil, pvClr_i, pvClr_r, pvClr_l, pvClr_d, pvClr_f, pvClr_n, pvE_iconst, pvE_istore_n3, pvE_istore, pvE_iload, pvE_iload_n2, pvE_icmp_ge, aL_areBranches_158, pvE_icmp_ne, pvE_ireturn, pvE_iinc, pvIc_s, pvE_goto, aL_areBranches_161, aL_areBranches_165, pvE_ishr, pvE_iand, pvE_ishl, pvE_ior, aL_areBranches_168, pvE_iadd, pvE_sipush, pvE_icmp_eq, pvE_iload_n3, aL_areBranches_171, pvE_i2f, pvE_imul, pvE_fdiv, pvE_fcmp, pvE_if_ne, bL_areBranches_0, uL_areBranches_0, bL_areBranches_11, uL_areBranches_11, bL_areBranches_20, uL_areBranches_20, bL_areBranches_46, uL_areBranches_46, bL_areBranches_52, uL_areBranches_52, bL_areBranches_55, uL_areBranches_55, bL_areBranches_81, uL_areBranches_81, bL_areBranches_118, uL_areBranches_118, bL_areBranches_120, uL_areBranches_120, bL_areBranches_151, uL_areBranches_151, bL_areBranches_161, uL_areBranches_161, bL_areBranches_172, uL_areBranches_172, bL_areBranches_178, uL_areBranches_178, bL_areBranches_198, uL_areBranches_198, bL_areBranches_199, uL_areBranches_199, pvMk_t, pvMk_f, pvMk_n, pvRtG, pvRecv_r, pvUp_nl, pvUp_same, pvUp_ap, pvSt_ap, pvX_c, pvX_ms, pvX_mn, pvE_nil, pvEn_i, pvEn_r, pvEn_l, pvEn_0, pvEn_s, pvRt, pvRv, pvTh, pvKc, pvGo, pvTgt, Int.toNat_natCast, false_and, and_false, true_and, and_true, if_true, if_false, reduceIte, reduceCtorEq, forall_const, false_or, or_false, true_or, or_true, ne_eq, not_true_eq_false, not_false_eq_true, implies_true, false_implies, Nat.reduceAdd, Nat.reduceSub, Nat.reduceMul, Nat.reduceEqDiff, Nat.reduceLT, Nat.reduceLeDiff, Int.reduceAdd, Int.reduceSub, Int.reduceMul, Int.reduceNeg, Int.reduceToNat, Int.reduceLE, Int.reduceLT, Int.reduceEq, Int.reduceNe, and_self]
        exact ⟨⟨by decide, by decide⟩, fun _ => ⟨⟨by omega, by omega⟩, q⟩, fun h9 => absurd h9 (by decide)⟩
      | succ m ih =>
        intro a ha z1 h1
        have hr1 := hr z1 h1
        have b1 := hbl a
        have hl16 := brF_len hw (ndF (dsF A) i) (a : Int)
        have q := h81 i a hi (by omega) (baK A i + blS A (ndF (dsF A) i) a) (by omega) (fun z2 h2 => by
          have := ih (a + 1) (by omega) z2 h2
          simp only [blS] at this
          rw [← Int.add_assoc] at this
          exact this) (brF A (ndF (dsF A) i) (a : Int)).length 0 (by omega)
        refine hc 20 _ _ _ _ _ fun _ _ _ => ?_
        clear hc hS hz h178 h81 ih
        simp only [pvStG]
        simp only [C_X9_branches, pvE_aload_n0, pvLA_s, pvLd, pvE_iload_n1, pvLI_s, pvE_invokevirtual, pvC1_s, pvC2_s, pvAf_v, pvAf_x, pvPop, pvCs, pvCat, pvPush, aL_areBranches_155, pvSh_0, pvSh_1, pvSh_2, pvSh_3, pvSh_4, pvSh_5, pvSh_6, pvSh_7, pvSh_8, pvSh_9, pvSh_10, pvSh_11, pvSh_12, pvSh_13, pvSh_14, pvSh_15, pvSh_16, pvSh_17, pvSh_18, pvSh_19, pvSh_20, pvSh_21, pvSh_22, pvSh_23, pvSh_24, pvSh_25, pvSh_26, pvSh_27, pvSh_28, pvSh_29, pvSh_30, pvSh_31, pvSh_32, pvSh_33, pvSh_34, pvSh_35, pvSh_36, pvSh_37, pvSh_38, pvE_istore_n2, pvS1, List.length_cons, List.length_nil, pvClr_i, pvClr_r, pvClr_l, pvClr_d, pvClr_f, pvClr_n, pvE_iconst, pvE_istore_n3, pvE_istore, pvE_iload, pvE_iload_n2, pvE_icmp_ge, aL_areBranches_158, pvE_icmp_ne, pvE_ireturn, pvE_iinc, pvIc_s, pvE_goto, aL_areBranches_161, aL_areBranches_165, pvE_ishr, pvE_iand, pvE_ishl, pvE_ior, aL_areBranches_168, pvE_iadd, pvE_sipush, pvE_icmp_eq, pvE_iload_n3, aL_areBranches_171, pvE_i2f, pvE_imul, pvE_fdiv, pvE_fcmp, pvE_if_ne, bL_areBranches_0, uL_areBranches_0, bL_areBranches_11, uL_areBranches_11, bL_areBranches_20, uL_areBranches_20, bL_areBranches_46, uL_areBranches_46, bL_areBranches_52, uL_areBranches_52, bL_areBranches_55, uL_areBranches_55, bL_areBranches_81, uL_areBranches_81, bL_areBranches_118, uL_areBranches_118, bL_areBranches_120, uL_areBranches_120, bL_areBranches_151, uL_areBranches_151, bL_areBranches_161, uL_areBranches_161, bL_areBranches_172, uL_areBranches_172, bL_areBranches_178, uL_areBranches_178, bL_areBranches_198, uL_areBranches_198, bL_areBranches_199, uL_areBranches_199, pvMk_t, pvMk_f, pvMk_n, pvRtG, pvRecv_r, pvUp_nl, pvUp_same, pvUp_ap, pvSt_ap, pvX_c, pvX_ms, pvX_mn, pvE_nil, pvEn_i, pvEn_r, pvEn_l, pvEn_0, pvEn_s, pvRt, pvRv, pvTh, pvKc, pvGo, pvTgt, Int.toNat_natCast, false_and, and_false, true_and, and_true, if_true, if_false, reduceIte, reduceCtorEq, forall_const, false_or, or_false, true_or, or_true, ne_eq, not_true_eq_false, not_false_eq_true, implies_true, false_implies, Nat.reduceAdd, Nat.reduceSub, Nat.reduceMul, Nat.reduceEqDiff, Nat.reduceLT, Nat.reduceLeDiff, Int.reduceAdd, Int.reduceSub, Int.reduceMul, Int.reduceNeg, Int.reduceToNat, Int.reduceLE, Int.reduceLT, Int.reduceEq, Int.reduceNe, and_self]
        simp only [hr1, hn, Int.toNat_natCast]
        have r0 : pvR 0 := ⟨by decide, by decide⟩
        have r3 : pvR 3 := ⟨by decide, by decide⟩
        have hin : (0 ≤ (i : Int) ∧ (i : Int) < n) ∧ 0 ≤ (a : Int) ∧ (a : Int) ≤ 2 := by omega
        exact ⟨r3, fun h9 => absurd h9 (by omega), fun _ => ⟨r0, r0, hl, h1.2.1, fun h9 => h9 hs, fun _ z2 g1 => ⟨fun _ => ⟨r0, q z2 0 (py_t h1 g1) seP_0⟩, fun h9 => (h9 hin).elim⟩⟩⟩
    have h20 : ∀ (i : Nat), i < n → (∀ z2, pyF z s z2 → SW 55 [some (vR 0), some (vI s), some (vI (n : Int)), some (vI (baK A i)), some (vI (i : Int)), some (vI 0), none, none, none, none, none] [] z2 0) →
        ∀ (m k : Nat), k + m = i → ∀ z1, pyF z s z1 → SW 20 [some (vR 0), some (vI s), some (vI (n : Int)), some (vI (baK A i)), some (vI (i : Int)), some (vI (k : Int)), none, none, none, none, none] [] z1 0 := by
      intro i hi hnext m
      have hba := baK_r hw i
      induction m with
      | zero =>
        intro k hk z1 h1
        obtain rfl : k = i := by omega
        have q := hnext z1 h1
        refine hc 20 _ _ _ _ _ fun _ _ _ => ?_
        clear hc hS hz h178 h81 h55
        simp only [pvStG]
        simp only [C_X9_deterministicSet, pvE_aload_n0, pvLA_s, pvLd, pvE_iload_n1, pvLI_s, pvE_invokevirtual, pvC1_s, pvC2_s, pvAf_v, pvAf_x, pvPop, pvCs, pvCat, pvPush, aL_areBranches_155, pvSh_0, pvSh_1, pvSh_2, pvSh_3, pvSh_4, pvSh_5, pvSh_6, pvSh_7, pvSh_8, pvSh_9, pvSh_10, pvSh_11, pvSh_12, pvSh_13, pvSh_14, pvSh_15, pvSh_16, pvSh_17, pvSh_18, pvSh_19, pvSh_20, pvSh_21, pvSh_22, pvSh_23, pvSh_24, pvSh_25, pvSh_26, pvSh_27, pvSh_28, pvSh_29, pvSh_30, pvSh_31, pvSh_32, pvSh_33, pvSh_34, pvSh_35, pvSh_36, pvSh_37, pvSh_38, pvE_istore_n2, pvS1, List.length_cons, List.length_nil, pvClr_i, pvClr_r, pvClr_l, pvClr_d, pvClr_f, pvClr_n, pvE_iconst, pvE_istore_n3, pvE_istore, pvE_iload, pvE_iload_n2, pvE_icmp_ge, aL_areBranches_158, pvE_icmp_ne, pvE_ireturn, pvE_iinc, pvIc_s, pvE_goto, aL_areBranches_161, aL_areBranches_165, pvE_ishr, pvE_iand, pvE_ishl, pvE_ior, aL_areBranches_168, pvE_iadd, pvE_sipush, pvE_icmp_eq, pvE_iload_n3, aL_areBranches_171, pvE_i2f, pvE_imul, pvE_fdiv, pvE_fcmp, pvE_if_ne, bL_areBranches_0, uL_areBranches_0, bL_areBranches_11, uL_areBranches_11, bL_areBranches_20, uL_areBranches_20, bL_areBranches_46, uL_areBranches_46, bL_areBranches_52, uL_areBranches_52, bL_areBranches_55, uL_areBranches_55, bL_areBranches_81, uL_areBranches_81, bL_areBranches_118, uL_areBranches_118, bL_areBranches_120, uL_areBranches_120, bL_areBranches_151, uL_areBranches_151, bL_areBranches_161, uL_areBranches_161, bL_areBranches_172, uL_areBranches_172, bL_areBranches_178, uL_areBranches_178, bL_areBranches_198, uL_areBranches_198, bL_areBranches_199, uL_areBranches_199, pvMk_t, pvMk_f, pvMk_n, pvRtG, pvRecv_r, pvUp_nl, pvUp_same, pvUp_ap, pvSt_ap, pvX_c, pvX_ms, pvX_mn, pvE_nil, pvEn_i, pvEn_r, pvEn_l, pvEn_0, pvEn_s, pvRt, pvRv, pvTh, pvKc, pvGo, pvTgt, Int.toNat_natCast, false_and, and_false, true_and, and_true, if_true, if_false, reduceIte, reduceCtorEq, forall_const, false_or, or_false, true_or, or_true, ne_eq, not_true_eq_false, not_false_eq_true, implies_true, false_implies, Nat.reduceAdd, Nat.reduceSub, Nat.reduceMul, Nat.reduceEqDiff, Nat.reduceLT, Nat.reduceLeDiff, Int.reduceAdd, Int.reduceSub, Int.reduceMul, Int.reduceNeg, Int.reduceToNat, Int.reduceLE, Int.reduceLT, Int.reduceEq, Int.reduceNe, and_self]
        exact ⟨fun _ => ⟨⟨by decide, by decide⟩, q⟩, fun h9 => absurd h9 (by omega)⟩
      | succ m ih =>
        intro k hk z1 h1
        have hr1 := hr z1 h1
        have q := ih (k + 1) (by omega)
        have hne : ¬ ndF (dsF A) i = ndF (dsF A) k := fun e => by
          have := ndF_inj hok.1 (by omega) (by omega) e
          omega
        have key : ∀ z2, pyF z1 s z2 → (autC (z2.1 (rwC s)) = A ∧ pzF z2) ∧ pyF z s z2 := fun z2 h2 => ⟨⟨hr z2 (py_t h1 h2), h2.2.1⟩, py_t h1 h2⟩
        refine hc 20 _ _ _ _ _ fun _ _ _ => ?_
        clear hc hS hz h178 h81 h55 ih
        simp only [pvStG]
        simp only [C_X9_deterministicSet, pvE_aload_n0, pvLA_s, pvLd, pvE_iload_n1, pvLI_s, pvE_invokevirtual, pvC1_s, pvC2_s, pvAf_v, pvAf_x, pvPop, pvCs, pvCat, pvPush, aL_areBranches_155, pvSh_0, pvSh_1, pvSh_2, pvSh_3, pvSh_4, pvSh_5, pvSh_6, pvSh_7, pvSh_8, pvSh_9, pvSh_10, pvSh_11, pvSh_12, pvSh_13, pvSh_14, pvSh_15, pvSh_16, pvSh_17, pvSh_18, pvSh_19, pvSh_20, pvSh_21, pvSh_22, pvSh_23, pvSh_24, pvSh_25, pvSh_26, pvSh_27, pvSh_28, pvSh_29, pvSh_30, pvSh_31, pvSh_32, pvSh_33, pvSh_34, pvSh_35, pvSh_36, pvSh_37, pvSh_38, pvE_istore_n2, pvS1, List.length_cons, List.length_nil, pvClr_i, pvClr_r, pvClr_l, pvClr_d, pvClr_f, pvClr_n, pvE_iconst, pvE_istore_n3, pvE_istore, pvE_iload, pvE_iload_n2, pvE_icmp_ge, aL_areBranches_158, pvE_icmp_ne, pvE_ireturn, pvE_iinc, pvIc_s, pvE_goto, aL_areBranches_161, aL_areBranches_165, pvE_ishr, pvE_iand, pvE_ishl, pvE_ior, aL_areBranches_168, pvE_iadd, pvE_sipush, pvE_icmp_eq, pvE_iload_n3, aL_areBranches_171, pvE_i2f, pvE_imul, pvE_fdiv, pvE_fcmp, pvE_if_ne, bL_areBranches_0, uL_areBranches_0, bL_areBranches_11, uL_areBranches_11, bL_areBranches_20, uL_areBranches_20, bL_areBranches_46, uL_areBranches_46, bL_areBranches_52, uL_areBranches_52, bL_areBranches_55, uL_areBranches_55, bL_areBranches_81, uL_areBranches_81, bL_areBranches_118, uL_areBranches_118, bL_areBranches_120, uL_areBranches_120, bL_areBranches_151, uL_areBranches_151, bL_areBranches_161, uL_areBranches_161, bL_areBranches_172, uL_areBranches_172, bL_areBranches_178, uL_areBranches_178, bL_areBranches_198, uL_areBranches_198, bL_areBranches_199, uL_areBranches_199, pvMk_t, pvMk_f, pvMk_n, pvRtG, pvRecv_r, pvUp_nl, pvUp_same, pvUp_ap, pvSt_ap, pvX_c, pvX_ms, pvX_mn, pvE_nil, pvEn_i, pvEn_r, pvEn_l, pvEn_0, pvEn_s, pvRt, pvRv, pvTh, pvKc, pvGo, pvTgt, Int.toNat_natCast, false_and, and_false, true_and, and_true, if_true, if_false, reduceIte, reduceCtorEq, forall_const, false_or, or_false, true_or, or_true, ne_eq, not_true_eq_false, not_false_eq_true, implies_true, false_implies, Nat.reduceAdd, Nat.reduceSub, Nat.reduceMul, Nat.reduceEqDiff, Nat.reduceLT, Nat.reduceLeDiff, Int.reduceAdd, Int.reduceSub, Int.reduceMul, Int.reduceNeg, Int.reduceToNat, Int.reduceLE, Int.reduceLT, Int.reduceEq, Int.reduceNe, and_self]
        simp only [hr1, hn, Int.toNat_natCast]
        refine ⟨fun h9 => absurd h9 (by omega), fun _ => ⟨hl, h1.2.1, fun h9 => h9 hs, fun _ z2 g1 => ⟨fun _ => ⟨hl, (key z2 g1).1.2, fun h9 => h9 hs, fun _ z3 g2 => ?_⟩, fun h9 => (h9 (by omega)).elim⟩⟩⟩
        simp only [(key z2 g1).1.1, hn]
        exact ⟨fun _ => ⟨fun _ => ⟨⟨by omega, by omega⟩, q z3 (py_t (key z2 g1).2 g2)⟩, fun h9 => (h9 hne).elim⟩, fun h9 => (h9 (by omega)).elim⟩
    have h11 : ∀ (m i : Nat), i + m = n → ∀ z1, pyF z s z1 → SW 11 [some (vR 0), some (vI s), some (vI (n : Int)), some (vI (baK A i)), some (vI (i : Int)), none, none, none, none, none, none] [] z1 0 := by
      intro m
      induction m with
      | zero =>
        intro i hi z1 h1
        obtain rfl : i = n := by omega
        exact h178 z1 h1
      | succ m ih =>
        intro i hi z1 h1
        have q1 := h55 i (by omega) (fun z2 h2 => ih (i + 1) (by omega) z2 h2) 3 0 (by omega)
        have q2 : ∀ z2, pyF z s z2 → SW 55 [some (vR 0), some (vI s), some (vI (n : Int)), some (vI (baK A i)), some (vI (i : Int)), some (vI 0), none, none, none, none, none] [] z2 0 := fun z2 h2 => by
          have := q1 z2 h2
          have e : baK A i + blS A (ndF (dsF A) i) 0 = baK A i := by
            show baK A i + 0 = _
            rw [Int.add_zero]
          rw [e] at this
          exact this
        have q := h20 i (by omega) q2 i 0 (by omega) z1 h1
        refine hc 20 _ _ _ _ _ fun _ _ _ => ?_
        clear hc hS hz h178 h81 h55 h20 ih q1 q2
        simp only [pvStG]
        simp only [pvE_aload_n0, pvLA_s, pvLd, pvE_iload_n1, pvLI_s, pvE_invokevirtual, pvC1_s, pvC2_s, pvAf_v, pvAf_x, pvPop, pvCs, pvCat, pvPush, aL_areBranches_155, pvSh_0, pvSh_1, pvSh_2, pvSh_3, pvSh_4, pvSh_5, pvSh_6, pvSh_7, pvSh_8, pvSh_9, pvSh_10, pvSh_11, pvSh_12, pvSh_13, pvSh_14, pvSh_15, pvSh_16, pvSh_17, pvSh_18, pvSh_19, pvSh_20, pvSh_21, pvSh_22, pvSh_23, pvSh_24, pvSh_25, pvSh_26, pvSh_27, pvSh_28, pvSh_29, pvSh_30, pvSh_31, pvSh_32, pvSh_33, pvSh_34, pvSh_35, pvSh_36, pvSh_37, pvSh_38, pvE_istore_n2, pvS1, List.length_cons, List.length_nil, pvClr_i, pvClr_r, pvClr_l, pvClr_d, pvClr_f, pvClr_n, pvE_iconst, pvE_istore_n3, pvE_istore, pvE_iload, pvE_iload_n2, pvE_icmp_ge, aL_areBranches_158, pvE_icmp_ne, pvE_ireturn, pvE_iinc, pvIc_s, pvE_goto, aL_areBranches_161, aL_areBranches_165, pvE_ishr, pvE_iand, pvE_ishl, pvE_ior, aL_areBranches_168, pvE_iadd, pvE_sipush, pvE_icmp_eq, pvE_iload_n3, aL_areBranches_171, pvE_i2f, pvE_imul, pvE_fdiv, pvE_fcmp, pvE_if_ne, bL_areBranches_0, uL_areBranches_0, bL_areBranches_11, uL_areBranches_11, bL_areBranches_20, uL_areBranches_20, bL_areBranches_46, uL_areBranches_46, bL_areBranches_52, uL_areBranches_52, bL_areBranches_55, uL_areBranches_55, bL_areBranches_81, uL_areBranches_81, bL_areBranches_118, uL_areBranches_118, bL_areBranches_120, uL_areBranches_120, bL_areBranches_151, uL_areBranches_151, bL_areBranches_161, uL_areBranches_161, bL_areBranches_172, uL_areBranches_172, bL_areBranches_178, uL_areBranches_178, bL_areBranches_198, uL_areBranches_198, bL_areBranches_199, uL_areBranches_199, pvMk_t, pvMk_f, pvMk_n, pvRtG, pvRecv_r, pvUp_nl, pvUp_same, pvUp_ap, pvSt_ap, pvX_c, pvX_ms, pvX_mn, pvE_nil, pvEn_i, pvEn_r, pvEn_l, pvEn_0, pvEn_s, pvRt, pvRv, pvTh, pvKc, pvGo, pvTgt, Int.toNat_natCast, false_and, and_false, true_and, and_true, if_true, if_false, reduceIte, reduceCtorEq, forall_const, false_or, or_false, true_or, or_true, ne_eq, not_true_eq_false, not_false_eq_true, implies_true, false_implies, Nat.reduceAdd, Nat.reduceSub, Nat.reduceMul, Nat.reduceEqDiff, Nat.reduceLT, Nat.reduceLeDiff, Int.reduceAdd, Int.reduceSub, Int.reduceMul, Int.reduceNeg, Int.reduceToNat, Int.reduceLE, Int.reduceLT, Int.reduceEq, Int.reduceNe, and_self]
        exact ⟨fun h9 => absurd h9 (by omega), fun _ => ⟨⟨by decide, by decide⟩, q⟩⟩
    refine ⟨Nat.le_of_ble_eq_true rfl, hc 20 _ _ _ _ _ fun _ _ _ => ?_⟩
    have q := h11 n 0 (by omega)
    clear hc hS hz h178 h81 h55 h20 h11
    simp only [pvStG]
    simp only [C_X9_deterministicStates, pvE_aload_n0, pvLA_s, pvLd, pvE_iload_n1, pvLI_s, pvE_invokevirtual, pvC1_s, pvC2_s, pvAf_v, pvAf_x, pvPop, pvCs, pvCat, pvPush, aL_areBranches_155, pvSh_0, pvSh_1, pvSh_2, pvSh_3, pvSh_4, pvSh_5, pvSh_6, pvSh_7, pvSh_8, pvSh_9, pvSh_10, pvSh_11, pvSh_12, pvSh_13, pvSh_14, pvSh_15, pvSh_16, pvSh_17, pvSh_18, pvSh_19, pvSh_20, pvSh_21, pvSh_22, pvSh_23, pvSh_24, pvSh_25, pvSh_26, pvSh_27, pvSh_28, pvSh_29, pvSh_30, pvSh_31, pvSh_32, pvSh_33, pvSh_34, pvSh_35, pvSh_36, pvSh_37, pvSh_38, pvE_istore_n2, pvS1, List.length_cons, List.length_nil, pvClr_i, pvClr_r, pvClr_l, pvClr_d, pvClr_f, pvClr_n, pvE_iconst, pvE_istore_n3, pvE_istore, pvE_iload, pvE_iload_n2, pvE_icmp_ge, aL_areBranches_158, pvE_icmp_ne, pvE_ireturn, pvE_iinc, pvIc_s, pvE_goto, aL_areBranches_161, aL_areBranches_165, pvE_ishr, pvE_iand, pvE_ishl, pvE_ior, aL_areBranches_168, pvE_iadd, pvE_sipush, pvE_icmp_eq, pvE_iload_n3, aL_areBranches_171, pvE_i2f, pvE_imul, pvE_fdiv, pvE_fcmp, pvE_if_ne, bL_areBranches_0, uL_areBranches_0, bL_areBranches_11, uL_areBranches_11, bL_areBranches_20, uL_areBranches_20, bL_areBranches_46, uL_areBranches_46, bL_areBranches_52, uL_areBranches_52, bL_areBranches_55, uL_areBranches_55, bL_areBranches_81, uL_areBranches_81, bL_areBranches_118, uL_areBranches_118, bL_areBranches_120, uL_areBranches_120, bL_areBranches_151, uL_areBranches_151, bL_areBranches_161, uL_areBranches_161, bL_areBranches_172, uL_areBranches_172, bL_areBranches_178, uL_areBranches_178, bL_areBranches_198, uL_areBranches_198, bL_areBranches_199, uL_areBranches_199, pvMk_t, pvMk_f, pvMk_n, pvRtG, pvRecv_r, pvUp_nl, pvUp_same, pvUp_ap, pvSt_ap, pvX_c, pvX_ms, pvX_mn, pvE_nil, pvEn_i, pvEn_r, pvEn_l, pvEn_0, pvEn_s, pvRt, pvRv, pvTh, pvKc, pvGo, pvTgt, Int.toNat_natCast, false_and, and_false, true_and, and_true, if_true, if_false, reduceIte, reduceCtorEq, forall_const, false_or, or_false, true_or, or_true, ne_eq, not_true_eq_false, not_false_eq_true, implies_true, false_implies, Nat.reduceAdd, Nat.reduceSub, Nat.reduceMul, Nat.reduceEqDiff, Nat.reduceLT, Nat.reduceLeDiff, Int.reduceAdd, Int.reduceSub, Int.reduceMul, Int.reduceNeg, Int.reduceToNat, Int.reduceLE, Int.reduceLT, Int.reduceEq, Int.reduceNe, and_self]
    simp only [hA, hn]
    have r0 : pvR 0 := ⟨by decide, by decide⟩
    exact ⟨hl, hpz, fun h9 => h9 hs, fun _ z1 g1 => ⟨r0, r0, q z1 g1⟩⟩
  · exact h.elim
