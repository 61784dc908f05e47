/-! automata, as both sides hold them, as one value: (count, initial, final, rows) -/
abbrev Aut : Type := Int × Int × Int × (Nat → Nat → Int)
def nrT (T : Nat → Int) : Nat → Int := fun c => if c < 4 ∨ c < 4 + 3 * (T 3).toNat then T c else 0
def abA (n i f : Int) (T : Nat → Nat → Int) : Aut := (n, i, f, fun t => if (t : Int) < n then nrT (T t) else fun _ => 0)
/-- a transition's row: source, letter, target, how many constraints, each: clock, kind, number -/
def TwF (T : Nat → Int) : Prop := (0 ≤ T 0 ∧ T 0 ≤ 3) ∧ (0 ≤ T 1 ∧ T 1 ≤ 2) ∧ (0 ≤ T 2 ∧ T 2 ≤ 3) ∧ (0 ≤ T 3 ∧ T 3 ≤ 4) ∧ ∀ k : Nat, (k : Int) < T 3 → (0 ≤ T (4 + 3 * k) ∧ T (4 + 3 * k) ≤ 2) ∧ (0 ≤ T (5 + 3 * k) ∧ T (5 + 3 * k) ≤ 6) ∧ (0 ≤ T (6 + 3 * k) ∧ T (6 + 3 * k) ≤ 3)
def WfA (A : Aut) : Prop := (0 ≤ A.1 ∧ A.1 ≤ 10) ∧ (0 ≤ A.2.1 ∧ A.2.1 ≤ 15) ∧ (0 ≤ A.2.2.1 ∧ A.2.2.1 ≤ 15) ∧ ∀ t : Nat, (t : Int) < A.1 → TwF (A.2.2.2 t)
/-- the first constraint that a valuation does not satisfy, from the k-th on; none: -1 -/
def blK (T : Nat → Int) (v : Int) : Nat → Nat → Int
  | 0, _ => -1
  | m + 1, k => if hdF (T (5 + 3 * k)) (T (6 + 3 * k)) (ptF v (T (4 + 3 * k))) then blK T v m (k + 1) else k
def blF (T : Nat → Int) (v : Int) : Int := blK T v (T 3).toNat 0
def rT (f : Nat → Int) (s : Int) (t c : Nat) : Int := f (163 * s.toNat + 3 + 16 * t + c)
def autR (f : Nat → Int) (s : Int) : Aut := abA (f (163 * s.toNat + 2)) (f (163 * s.toNat)) (f (163 * s.toNat + 1)) (rT f s)
theorem nrT_s {T : Nat → Int} {c : Nat} (h : c < 4) : nrT T c = T c := if_pos (Or.inl h)
theorem blK_nr (T : Nat → Int) (v : Int) (m k : Nat) (h : k + m ≤ (T 3).toNat) : blK (nrT T) v m k = blK T v m k := by
  induction m generalizing k with
  | zero => rfl
  | succ m ih =>
    have e4 : nrT T (4 + 3 * k) = T (4 + 3 * k) := if_pos (Or.inr (by omega))
    have e5 : nrT T (5 + 3 * k) = T (5 + 3 * k) := if_pos (Or.inr (by omega))
    have e6 : nrT T (6 + 3 * k) = T (6 + 3 * k) := if_pos (Or.inr (by omega))
    simp only [blK, e4, e5, e6, ih (k + 1) (by omega)]
theorem blF_nr (T : Nat → Int) (v : Int) : blF (nrT T) v = blF T v := by
  unfold blF
  rw [nrT_s (by decide), blK_nr T v _ 0 (by omega)]
theorem TwF_nr {T : Nat → Int} (h : TwF (nrT T)) : TwF T := by
  obtain ⟨h0, h1, h2, h3, h4⟩ := h
  simp only [nrT_s (show 0 < 4 by decide), nrT_s (show 1 < 4 by decide), nrT_s (show 2 < 4 by decide), nrT_s (show 3 < 4 by decide)] at h0 h1 h2 h3 h4
  refine ⟨h0, h1, h2, h3, fun k hk => ?_⟩
  have q := h4 k hk
  rw [show nrT T (4 + 3 * k) = T (4 + 3 * k) from if_pos (Or.inr (by omega)), show nrT T (5 + 3 * k) = T (5 + 3 * k) from if_pos (Or.inr (by omega)), show nrT T (6 + 3 * k) = T (6 + 3 * k) from if_pos (Or.inr (by omega))] at q
  exact q
theorem rT_eq (f : Nat → Int) {s E : Int} {t c : Nat} (hs : 0 ≤ s) (h : E = 163 * s + 3 + 16 * t + c) : f E.toNat = rT f s t c := by
  unfold rT
  rw [show E.toNat = 163 * s.toNat + 3 + 16 * t + c by omega]
theorem autR_T {f : Nat → Int} {s : Int} {t : Nat} (h : (t : Int) < (autR f s).1) : (autR f s).2.2.2 t = nrT (rT f s t) := if_pos h
theorem autR_w {f : Nat → Int} {s : Int} (h : WfA (autR f s)) {t : Nat} (ht : (t : Int) < (autR f s).1) : TwF (rT f s t) := by
  have q := h.2.2.2 t ht
  rw [autR_T ht] at q
  exact TwF_nr q
def C_X10_blocks : pvC
  | [.inr (.inr (.inl id)), .inl s, .inl t, .inl v], z, Q => id = 39 ∧ ((0 ≤ s ∧ s ≤ 1) ∧ WfA (autR (z.1 40) s) ∧ (0 ≤ t ∧ t < (autR (z.1 40) s).1) ∧ 0 ≤ v ∧ v < 216) ∧ Q (.inl (some (vI (blF ((autR (z.1 40) s).2.2.2 t.toNat) v)))) z
  | _, _, _ => False
def bX10_blocks : Nat → List (Instr × Nat)
  | 0 => [(.iload_n 1, 1), (.iload_n 2, 1), (.invokestatic 130, 3), (.istore 4, 2), (.iconst 0, 1), (.istore 5, 2)]
  | 10 => [(.iload 5, 2), (.aload_n 0, 1), (.getfield 7, 3), (.iload 4, 2), (.iconst 3, 1), (.iadd, 1), (.iaload, 1), (.if_icmp .ge 65, 3), (.aload_n 0, 1), (.getfield 7, 3), (.iload 4, 2), (.iconst 5, 1), (.iadd, 1), (.iconst 3, 1), (.iload 5, 2), (.imul, 1), (.iadd, 1), (.iaload, 1), (.aload_n 0, 1), (.getfield 7, 3), (.iload 4, 2), (.bipush 6, 2), (.iadd, 1), (.iconst 3, 1), (.iload 5, 2), (.imul, 1), (.iadd, 1), (.iaload, 1), (.iload_n 3, 1), (.aload_n 0, 1), (.getfield 7, 3), (.iload 4, 2), (.iconst 4, 1), (.iadd, 1), (.iconst 3, 1), (.iload 5, 2), (.imul, 1), (.iadd, 1), (.iaload, 1), (.invokestatic 145, 3), (.invokestatic 151, 3), (.ifCond .ne 6, 3), (.iload 5, 2), (.ireturn, 1)]
  | 80 => [(.iinc 5 1, 3), (.goto (-73), 3)]
  | 86 => [(.iconst (-1), 1), (.ireturn, 1)]
  | _ => []
def uX10_blocks : Nat → Option (List Bool)
  | 10 => some [true, false, false, true, true, true]
  | _ => none
def aX10_blocks : pvCa
  | 130 => some (2, true, 0, 0, C_X10_at)
  | 145 => some (2, true, 0, 0, C_X10_part)
  | 151 => some (3, true, 0, 0, C_X10_holds)
  | _ => none
theorem bX10_blocks_0 : bX10_blocks 0 = [(.iload_n 1, 1), (.iload_n 2, 1), (.invokestatic 130, 3), (.istore 4, 2), (.iconst 0, 1), (.istore 5, 2)] := rfl
theorem uX10_blocks_0 : uX10_blocks 0 = none := rfl
theorem bX10_blocks_10 : bX10_blocks 10 = [(.iload 5, 2), (.aload_n 0, 1), (.getfield 7, 3), (.iload 4, 2), (.iconst 3, 1), (.iadd, 1), (.iaload, 1), (.if_icmp .ge 65, 3), (.aload_n 0, 1), (.getfield 7, 3), (.iload 4, 2), (.iconst 5, 1), (.iadd, 1), (.iconst 3, 1), (.iload 5, 2), (.imul, 1), (.iadd, 1), (.iaload, 1), (.aload_n 0, 1), (.getfield 7, 3), (.iload 4, 2), (.bipush 6, 2), (.iadd, 1), (.iconst 3, 1), (.iload 5, 2), (.imul, 1), (.iadd, 1), (.iaload, 1), (.iload_n 3, 1), (.aload_n 0, 1), (.getfield 7, 3), (.iload 4, 2), (.iconst 4, 1), (.iadd, 1), (.iconst 3, 1), (.iload 5, 2), (.imul, 1), (.iadd, 1), (.iaload, 1), (.invokestatic 145, 3), (.invokestatic 151, 3), (.ifCond .ne 6, 3), (.iload 5, 2), (.ireturn, 1)] := rfl
theorem uX10_blocks_10 : uX10_blocks 10 = some [true, false, false, true, true, true] := rfl
theorem bX10_blocks_80 : bX10_blocks 80 = [(.iinc 5 1, 3), (.goto (-73), 3)] := rfl
theorem uX10_blocks_80 : uX10_blocks 80 = none := rfl
theorem bX10_blocks_86 : bX10_blocks 86 = [(.iconst (-1), 1), (.ireturn, 1)] := rfl
theorem uX10_blocks_86 : uX10_blocks 86 = none := rfl
theorem aX10_blocks_130 : aX10_blocks 130 = some (2, true, 0, 0, C_X10_at) := rfl
theorem aX10_blocks_145 : aX10_blocks 145 = some (2, true, 0, 0, C_X10_part) := rfl
theorem aX10_blocks_151 : aX10_blocks 151 = some (3, true, 0, 0, C_X10_holds) := rfl
def mX10_blocks : Room := { frames := 1, cells := 1, slots := 6, locals := 22 }
set_option maxRecDepth 100000 in
set_option maxHeartbeats 4000000 in
theorem okX10_blocks : pvOkM fX10 aX10_blocks kX10 eX10 (some .int) bX10_blocks uX10_blocks 6 C_X10_blocks := by
  intro Q SW hc as z h hS hz
  unfold C_X10_blocks at h
  split at h
  · rename_i id s t v
    obtain ⟨rfl, ⟨hs, hw, ht, hv⟩, h2⟩ := h
    obtain ⟨t, rfl⟩ : ∃ n : Nat, t = n := ⟨t.toNat, by omega⟩
    rw [Int.toNat_natCast, autR_T ht.2, blF_nr] at h2
    have hT := autR_w hw ht.2
    have hn := hw.1
    refine ⟨Nat.le_of_ble_eq_true rfl, hc 20 _ _ _ fun _ _ => ?_⟩
    have g3 : z.1 40 (163 * s + 3 + 16 * (t : Int) + 3).toNat = rT (z.1 40) s t 3 := rT_eq (z.1 40) hs.1 (by omega)
    have loop : ∀ (m k : Nat), (k : Int) + m = rT (z.1 40) s t 3 → Q (.inl (some (vI (blK (rT (z.1 40) s t) v m k)))) z → SW 10 [some (vR 39), none, none, some (vI v), some (vI (163 * s + 3 + 16 * (t : Int))), some (vI (k : Int))] z := by
      intro m
      induction m with
      | zero =>
        intro k hk hq
        refine hc 20 _ _ _ fun _ _ => ?_
        simp only [pvSt1]
        simp only [C_X10_part, C_X10_holds, g3, pvE_iload_n1, pvLI_s, pvLd, pvE_iload_n2, pvE_invokestatic (h0 := eX10_130), pvC1_s, pvC2_s, pvAf_v, pvAf_x, pvPop, pvCs, pvCat, pvPush, aX10_blocks_130, pvE_istore, pvS1, List.length_cons, List.length_nil, pvClr_i, pvClr_r, pvClr_l, pvClr_d, pvClr_f, pvClr_n, pvE_iconst, pvE_iload, pvE_aload_n0, pvLA_s, pvE_getfield, pvGf_0, pvGf_1, pvGf_2, fX10_7, pvSh_0, pvSh_1, pvSh_2, pvSh_3, pvSh_4, pvSh_5, pvSh_6, pvSh_7, pvSh_8, pvSh_9, pvSh_10, pvSh_11, pvSh_12, pvSh_13, pvSh_14, pvSh_15, pvSh_16, pvSh_17, pvSh_18, pvSh_19, pvSh_20, pvSh_21, pvSh_22, pvSh_23, pvSh_24, pvSh_25, pvSh_26, pvSh_27, pvSh_28, pvSh_29, pvSh_30, pvSh_31, pvSh_32, pvSh_33, pvSh_34, pvSh_35, pvSh_36, pvSh_37, pvSh_38, pvSh_39, pvSh_40, pvSh_41, pvSh_42, pvSh_43, pvSh_44, pvSh_45, pvSh_46, pvSh_47, pvSh_48, pvSh_49, pvSh_50, pvSh_51, pvSh_52, pvSh_53, pvSh_54, pvSh_55, pvSh_56, pvSh_57, pvSh_58, pvSh_59, pvRf_0_0, pvRf_0_1, pvRf_0_2, pvRf_0_3, pvRf_0_4, pvRf_0_5, pvRf_0_6, pvRf_0_7, pvRf_0_8, pvRf_0_9, pvRf_0_10, pvRf_1_0, pvRf_3_0, pvRf_5_0, pvRf_5_1, pvRf_5_2, pvRf_9_0, pvRf_9_1, pvRf_9_2, pvRf_13_0, pvRf_13_1, pvRf_13_2, pvRf_17_0, pvRf_17_2, pvRf_20_0, pvRf_20_1, pvRf_20_2, pvRf_24_0, pvRf_24_1, pvRf_24_2, pvRf_28_0, pvRf_28_1, pvRf_28_2, pvRf_28_3, pvRf_33_0, pvRf_33_1, pvRf_36_0, pvRf_36_1, pvRf_39_0, pvRf_39_1, pvRf_39_2, pvRf_39_5, pvRf_39_6, pvRf_39_9, pvRf_39_13, pvRf_39_15, pvRf_39_16, pvRf_39_17, pvRf_39_19, pvRf_39_20, pvRf_39_22, pvRf_39_23, pvRf_39_24, pvRf_39_25, pvRf_39_29, pvRf_39_30, pvE_iadd, pvE_iaload, pvAI, pvE_icmp_ge, pvE_imul, pvE_bipush, pvE_iload_n3, pvE_invokestatic (h0 := eX10_145), aX10_blocks_145, pvE_invokestatic (h0 := eX10_151), aX10_blocks_151, pvE_if_ne, pvE_ireturn, pvE_iinc, pvIc_s, pvE_goto, bX10_blocks_0, uX10_blocks_0, bX10_blocks_10, uX10_blocks_10, bX10_blocks_80, uX10_blocks_80, bX10_blocks_86, uX10_blocks_86, pvMk_t, pvMk_f, pvMk_n, pvRecv_r, pvUp_nl, pvUp_same, pvUp_ap, pvSt_ap, pvX_c, pvX_ms, pvX_mn, pvE_nil, pvEn_i, pvEn_r, pvEn_l, pvEn_0, pvEn_s, pvRt, pvRv, pvTh, pvKc, pvGo, pvTgt, Int.toNat_natCast, false_and, and_false, true_and, and_true, if_true, if_false, reduceIte, reduceCtorEq, forall_const, false_or, or_false, true_or, or_true, ne_eq, not_true_eq_false, not_false_eq_true, implies_true, false_implies, Nat.reduceAdd, Nat.reduceSub, Nat.reduceMul, Nat.reduceEqDiff, Nat.reduceLT, Nat.reduceLeDiff, Int.reduceAdd, Int.reduceSub, Int.reduceMul, Int.reduceNeg, Int.reduceToNat, Int.reduceLE, Int.reduceLT, Int.reduceEq, Int.reduceNe, and_self]
        refine ⟨by omega, by omega, by omega, fun _ => ⟨by omega, hq⟩, fun hn => absurd (by omega) hn⟩
      | succ m ih =>
        intro k hk hq
        have g4 : z.1 40 (163 * s + 3 + 16 * (t : Int) + 4 + 3 * (k : Int)).toNat = rT (z.1 40) s t (4 + 3 * k) := rT_eq (z.1 40) hs.1 (by omega)
        have g5 : z.1 40 (163 * s + 3 + 16 * (t : Int) + 5 + 3 * (k : Int)).toNat = rT (z.1 40) s t (5 + 3 * k) := rT_eq (z.1 40) hs.1 (by omega)
        have g6 : z.1 40 (163 * s + 3 + 16 * (t : Int) + 6 + 3 * (k : Int)).toNat = rT (z.1 40) s t (6 + 3 * k) := rT_eq (z.1 40) hs.1 (by omega)
        obtain ⟨w4, w5, w6⟩ := hT.2.2.2.2 k (by omega)
        have hp := ptF_r (v := v) (c := rT (z.1 40) s t (4 + 3 * k)) hv
        have h3 := hT.2.2.2.1
        refine hc 20 _ _ _ fun _ _ => ?_
        simp only [pvSt1]
        simp only [C_X10_part, C_X10_holds, g3, g4, g5, g6, pvE_iload_n1, pvLI_s, pvLd, pvE_iload_n2, pvE_invokestatic (h0 := eX10_130), pvC1_s, pvC2_s, pvAf_v, pvAf_x, pvPop, pvCs, pvCat, pvPush, aX10_blocks_130, pvE_istore, pvS1, List.length_cons, List.length_nil, pvClr_i, pvClr_r, pvClr_l, pvClr_d, pvClr_f, pvClr_n, pvE_iconst, pvE_iload, pvE_aload_n0, pvLA_s, pvE_getfield, pvGf_0, pvGf_1, pvGf_2, fX10_7, pvSh_0, pvSh_1, pvSh_2, pvSh_3, pvSh_4, pvSh_5, pvSh_6, pvSh_7, pvSh_8, pvSh_9, pvSh_10, pvSh_11, pvSh_12, pvSh_13, pvSh_14, pvSh_15, pvSh_16, pvSh_17, pvSh_18, pvSh_19, pvSh_20, pvSh_21, pvSh_22, pvSh_23, pvSh_24, pvSh_25, pvSh_26, pvSh_27, pvSh_28, pvSh_29, pvSh_30, pvSh_31, pvSh_32, pvSh_33, pvSh_34, pvSh_35, pvSh_36, pvSh_37, pvSh_38, pvSh_39, pvSh_40, pvSh_41, pvSh_42, pvSh_43, pvSh_44, pvSh_45, pvSh_46, pvSh_47, pvSh_48, pvSh_49, pvSh_50, pvSh_51, pvSh_52, pvSh_53, pvSh_54, pvSh_55, pvSh_56, pvSh_57, pvSh_58, pvSh_59, pvRf_0_0, pvRf_0_1, pvRf_0_2, pvRf_0_3, pvRf_0_4, pvRf_0_5, pvRf_0_6, pvRf_0_7, pvRf_0_8, pvRf_0_9, pvRf_0_10, pvRf_1_0, pvRf_3_0, pvRf_5_0, pvRf_5_1, pvRf_5_2, pvRf_9_0, pvRf_9_1, pvRf_9_2, pvRf_13_0, pvRf_13_1, pvRf_13_2, pvRf_17_0, pvRf_17_2, pvRf_20_0, pvRf_20_1, pvRf_20_2, pvRf_24_0, pvRf_24_1, pvRf_24_2, pvRf_28_0, pvRf_28_1, pvRf_28_2, pvRf_28_3, pvRf_33_0, pvRf_33_1, pvRf_36_0, pvRf_36_1, pvRf_39_0, pvRf_39_1, pvRf_39_2, pvRf_39_5, pvRf_39_6, pvRf_39_9, pvRf_39_13, pvRf_39_15, pvRf_39_16, pvRf_39_17, pvRf_39_19, pvRf_39_20, pvRf_39_22, pvRf_39_23, pvRf_39_24, pvRf_39_25, pvRf_39_29, pvRf_39_30, pvE_iadd, pvE_iaload, pvAI, pvE_icmp_ge, pvE_imul, pvE_bipush, pvE_iload_n3, pvE_invokestatic (h0 := eX10_145), aX10_blocks_145, pvE_invokestatic (h0 := eX10_151), aX10_blocks_151, pvE_if_ne, pvE_ireturn, pvE_iinc, pvIc_s, pvE_goto, bX10_blocks_0, uX10_blocks_0, bX10_blocks_10, uX10_blocks_10, bX10_blocks_80, uX10_blocks_80, bX10_blocks_86, uX10_blocks_86, pvMk_t, pvMk_f, pvMk_n, pvRecv_r, pvUp_nl, pvUp_same, pvUp_ap, pvSt_ap, pvX_c, pvX_ms, pvX_mn, pvE_nil, pvEn_i, pvEn_r, pvEn_l, pvEn_0, pvEn_s, pvRt, pvRv, pvTh, pvKc, pvGo, pvTgt, Int.toNat_natCast, false_and, and_false, true_and, and_true, if_true, if_false, reduceIte, reduceCtorEq, forall_const, false_or, or_false, true_or, or_true, ne_eq, not_true_eq_false, not_false_eq_true, implies_true, false_implies, Nat.reduceAdd, Nat.reduceSub, Nat.reduceMul, Nat.reduceEqDiff, Nat.reduceLT, Nat.reduceLeDiff, Int.reduceAdd, Int.reduceSub, Int.reduceMul, Int.reduceNeg, Int.reduceToNat, Int.reduceLE, Int.reduceLT, Int.reduceEq, Int.reduceNe, and_self]
        simp only [blK] at hq
        (repeat' (first | with_reducible apply And.intro | intro _))
        all_goals first
          | omega
          | (rename_i e; rw [if_pos e] at hq; exact ih (k + 1) (by omega) hq)
          | (rename_i e; rw [if_neg (by rw [e]; decide)] at hq; exact hq)
    simp only [pvSt1]
    simp only [C_X10_at, pvE_iload_n1, pvLI_s, pvLd, pvE_iload_n2, pvE_invokestatic (h0 := eX10_130), pvC1_s, pvC2_s, pvAf_v, pvAf_x, pvPop, pvCs, pvCat, pvPush, aX10_blocks_130, pvE_istore, pvS1, List.length_cons, List.length_nil, pvClr_i, pvClr_r, pvClr_l, pvClr_d, pvClr_f, pvClr_n, pvE_iconst, pvE_iload, pvE_aload_n0, pvLA_s, pvE_getfield, pvGf_0, pvGf_1, pvGf_2, fX10_7, pvSh_0, pvSh_1, pvSh_2, pvSh_3, pvSh_4, pvSh_5, pvSh_6, pvSh_7, pvSh_8, pvSh_9, pvSh_10, pvSh_11, pvSh_12, pvSh_13, pvSh_14, pvSh_15, pvSh_16, pvSh_17, pvSh_18, pvSh_19, pvSh_20, pvSh_21, pvSh_22, pvSh_23, pvSh_24, pvSh_25, pvSh_26, pvSh_27, pvSh_28, pvSh_29, pvSh_30, pvSh_31, pvSh_32, pvSh_33, pvSh_34, pvSh_35, pvSh_36, pvSh_37, pvSh_38, pvSh_39, pvSh_40, pvSh_41, pvSh_42, pvSh_43, pvSh_44, pvSh_45, pvSh_46, pvSh_47, pvSh_48, pvSh_49, pvSh_50, pvSh_51, pvSh_52, pvSh_53, pvSh_54, pvSh_55, pvSh_56, pvSh_57, pvSh_58, pvSh_59, pvRf_0_0, pvRf_0_1, pvRf_0_2, pvRf_0_3, pvRf_0_4, pvRf_0_5, pvRf_0_6, pvRf_0_7, pvRf_0_8, pvRf_0_9, pvRf_0_10, pvRf_1_0, pvRf_3_0, pvRf_5_0, pvRf_5_1, pvRf_5_2, pvRf_9_0, pvRf_9_1, pvRf_9_2, pvRf_13_0, pvRf_13_1, pvRf_13_2, pvRf_17_0, pvRf_17_2, pvRf_20_0, pvRf_20_1, pvRf_20_2, pvRf_24_0, pvRf_24_1, pvRf_24_2, pvRf_28_0, pvRf_28_1, pvRf_28_2, pvRf_28_3, pvRf_33_0, pvRf_33_1, pvRf_36_0, pvRf_36_1, pvRf_39_0, pvRf_39_1, pvRf_39_2, pvRf_39_5, pvRf_39_6, pvRf_39_9, pvRf_39_13, pvRf_39_15, pvRf_39_16, pvRf_39_17, pvRf_39_19, pvRf_39_20, pvRf_39_22, pvRf_39_23, pvRf_39_24, pvRf_39_25, pvRf_39_29, pvRf_39_30, pvE_iadd, pvE_iaload, pvAI, pvE_icmp_ge, pvE_imul, pvE_bipush, pvE_iload_n3, pvE_invokestatic (h0 := eX10_145), aX10_blocks_145, pvE_invokestatic (h0 := eX10_151), aX10_blocks_151, pvE_if_ne, pvE_ireturn, pvE_iinc, pvIc_s, pvE_goto, bX10_blocks_0, uX10_blocks_0, bX10_blocks_10, uX10_blocks_10, bX10_blocks_80, uX10_blocks_80, bX10_blocks_86, uX10_blocks_86, pvMk_t, pvMk_f, pvMk_n, pvRecv_r, pvUp_nl, pvUp_same, pvUp_ap, pvSt_ap, pvX_c, pvX_ms, pvX_mn, pvE_nil, pvEn_i, pvEn_r, pvEn_l, pvEn_0, pvEn_s, pvRt, pvRv, pvTh, pvKc, pvGo, pvTgt, Int.toNat_natCast, false_and, and_false, true_and, and_true, if_true, if_false, reduceIte, reduceCtorEq, forall_const, false_or, or_false, true_or, or_true, ne_eq, not_true_eq_false, not_false_eq_true, implies_true, false_implies, Nat.reduceAdd, Nat.reduceSub, Nat.reduceMul, Nat.reduceEqDiff, Nat.reduceLT, Nat.reduceLeDiff, Int.reduceAdd, Int.reduceSub, Int.reduceMul, Int.reduceNeg, Int.reduceToNat, Int.reduceLE, Int.reduceLT, Int.reduceEq, Int.reduceNe, and_self]
    refine ⟨by omega, by omega, loop (rT (z.1 40) s t 3).toNat 0 (by have := hT.2.2.2.1; omega) h2⟩
  · exact h.elim
