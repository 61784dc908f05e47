/-! the reference: transitions, the word, sets of states -/
def sbK (T : Nat → Nat → Int) (set a v : Int) : Nat → Int
  | 0 => 0
  | k + 1 => if btF set (T k 0) = true ∧ T k 1 = a ∧ blF (T k) v < 0 then pvOr (sbK T set a v k) (pvShl 1 (T k 2)) else sbK T set a v k
def sbF (A : Aut) (set a v : Int) : Int := sbK A.2.2.2 set a v A.1.toNat
theorem or15F : ∀ (x : Fin 16) (r : Fin 4), 0 ≤ pvOr ((x : Nat) : Int) (pvShl 1 ((r : Nat) : Int)) ∧ pvOr ((x : Nat) : Int) (pvShl 1 ((r : Nat) : Int)) ≤ 15 := by decide +kernel
theorem or15 {x r : Int} (hx : 0 ≤ x ∧ x ≤ 15) (hr : 0 ≤ r ∧ r ≤ 3) : 0 ≤ pvOr x (pvShl 1 r) ∧ pvOr x (pvShl 1 r) ≤ 15 := by
  obtain ⟨a, rfl⟩ := fin_of (a := x) (n := 16) (by omega)
  obtain ⟨b, rfl⟩ := fin_of (a := r) (n := 4) (by omega)
  exact or15F a b
theorem sbK_r {T : Nat → Nat → Int} {n : Nat} (h : ∀ t, t < n → 0 ≤ T t 2 ∧ T t 2 ≤ 3) (set a v : Int) (k : Nat) (hk : k ≤ n) : 0 ≤ sbK T set a v k ∧ sbK T set a v k ≤ 15 := by
  induction k with
  | zero => exact ⟨Int.le_refl 0, by show (0 : Int) ≤ 15; decide⟩
  | succ k ih =>
    simp only [sbK]
    split
    · exact or15 (ih (by omega)) (h k (by omega))
    · exact ih (by omega)
theorem sbF_r {A : Aut} (h : WfA A) (set a v : Int) : 0 ≤ sbF A set a v ∧ sbF A set a v ≤ 15 :=
  sbK_r (n := A.1.toNat) (fun t ht => (h.2.2.2 t (by omega)).2.2.1) set a v _ (Nat.le_refl _)
theorem abA_T {n i f : Int} {T : Nat → Nat → Int} {t : Nat} (h : (t : Int) < n) : (abA n i f T).2.2.2 t = nrT (T t) := if_pos h
theorem sbK_ab {n i f : Int} {T : Nat → Nat → Int} (set a v : Int) (k : Nat) (hk : (k : Int) ≤ n) : sbK (abA n i f T).2.2.2 set a v k = sbK T set a v k := by
  induction k with
  | zero => rfl
  | succ k ih =>
    simp only [sbK, abA_T (show (k : Int) < n by omega), nrT_s (show 0 < 4 by decide), nrT_s (show 1 < 4 by decide), nrT_s (show 2 < 4 by decide), blF_nr, ih (by omega)]
theorem blF_ge (T : Nat → Int) (v : Int) : -1 ≤ blF T v := by
  have : ∀ m k, -1 ≤ blK T v m k := by
    intro m
    induction m with
    | zero => intro k; exact Int.le_refl _
    | succ m ih =>
      intro k
      simp only [blK]
      split
      · exact ih _
      · omega
  exact this _ _
def C_X10_goes : pvC
  | [.inr (.inr (.inl id)), .inl s, .inl t, .inl f, .inl a, .inl v], z, Q => id = 39 ∧ ((0 ≤ s ∧ s ≤ 1) ∧ WfA (autR (z.1 40) s) ∧ (0 ≤ t ∧ t < (autR (z.1 40) s).1) ∧ 0 ≤ v ∧ v < 216) ∧
      (((autR (z.1 40) s).2.2.2 t.toNat 0 = f ∧ (autR (z.1 40) s).2.2.2 t.toNat 1 = a ∧ blF ((autR (z.1 40) s).2.2.2 t.toNat) v < 0) → Q (.inl (some (vI 1))) z) ∧
      (¬ ((autR (z.1 40) s).2.2.2 t.toNat 0 = f ∧ (autR (z.1 40) s).2.2.2 t.toNat 1 = a ∧ blF ((autR (z.1 40) s).2.2.2 t.toNat) v < 0) → Q (.inl (some (vI 0))) z)
  | _, _, _ => False
def bX10_goes : Nat → List (Instr × Nat)
  | 0 => [(.iload_n 1, 1), (.iload_n 2, 1), (.invokestatic 130, 3), (.istore 6, 2), (.aload_n 0, 1), (.getfield 7, 3), (.iload 6, 2), (.iaload, 1), (.iload_n 3, 1), (.if_icmp .ne 32, 3), (.aload_n 0, 1), (.getfield 7, 3), (.iload 6, 2), (.iconst 1, 1), (.iadd, 1), (.iaload, 1), (.iload 4, 2), (.if_icmp .ne 18, 3), (.aload_n 0, 1), (.iload_n 1, 1), (.iload_n 2, 1), (.iload 5, 2), (.invokevirtual 154, 3), (.ifCond .ge 7, 3), (.iconst 1, 1), (.goto 4, 3)]
  | 47 => [(.iconst 0, 1)]
  | 48 => [(.ireturn, 1)]
  | _ => []
def uX10_goes : Nat → Option (List Bool)
  | _ => none
def aX10_goes : pvCa
  | 130 => some (2, true, 0, 0, C_X10_at)
  | 154 => some (4, false, 9, 0, C_X10_blocks)
  | _ => none
theorem bX10_goes_0 : bX10_goes 0 = [(.iload_n 1, 1), (.iload_n 2, 1), (.invokestatic 130, 3), (.istore 6, 2), (.aload_n 0, 1), (.getfield 7, 3), (.iload 6, 2), (.iaload, 1), (.iload_n 3, 1), (.if_icmp .ne 32, 3), (.aload_n 0, 1), (.getfield 7, 3), (.iload 6, 2), (.iconst 1, 1), (.iadd, 1), (.iaload, 1), (.iload 4, 2), (.if_icmp .ne 18, 3), (.aload_n 0, 1), (.iload_n 1, 1), (.iload_n 2, 1), (.iload 5, 2), (.invokevirtual 154, 3), (.ifCond .ge 7, 3), (.iconst 1, 1), (.goto 4, 3)] := rfl
theorem uX10_goes_0 : uX10_goes 0 = none := rfl
theorem bX10_goes_47 : bX10_goes 47 = [(.iconst 0, 1)] := rfl
theorem uX10_goes_47 : uX10_goes 47 = none := rfl
theorem bX10_goes_48 : bX10_goes 48 = [(.ireturn, 1)] := rfl
theorem uX10_goes_48 : uX10_goes 48 = none := rfl
theorem aX10_goes_130 : aX10_goes 130 = some (2, true, 0, 0, C_X10_at) := rfl
theorem aX10_goes_154 : aX10_goes 154 = some (4, false, 9, 0, C_X10_blocks) := rfl
def mX10_goes : Room := { frames := 2, cells := 1, slots := 6, locals := 47 }
set_option maxRecDepth 100000 in
set_option maxHeartbeats 4000000 in
theorem okX10_goes : pvOkM fX10 aX10_goes kX10 eX10 (some .boolean) bX10_goes uX10_goes 7 C_X10_goes := by
  intro Q SW hc as z h hS hz
  unfold C_X10_goes at h
  split at h
  · rename_i id s t f a v
    obtain ⟨rfl, ⟨hs, hw, ht, hv⟩, h2, h3⟩ := h
    obtain ⟨t, rfl⟩ : ∃ n : Nat, t = n := ⟨t.toNat, by omega⟩
    have hn := hw.1
    have g0 : z.1 40 (163 * s + 3 + 16 * (t : Int)).toNat = (autR (z.1 40) s).2.2.2 t 0 := by rw [autR_T ht.2, nrT_s (by decide)]; exact rT_eq (z.1 40) hs.1 (by omega)
    have g1 : z.1 40 (163 * s + 3 + 16 * (t : Int) + 1).toNat = (autR (z.1 40) s).2.2.2 t 1 := by rw [autR_T ht.2, nrT_s (by decide)]; exact rT_eq (z.1 40) hs.1 (by omega)
    rw [Int.toNat_natCast] at h2 h3
    refine ⟨Nat.le_of_ble_eq_true rfl, hc 20 _ _ _ fun _ _ => ?_⟩
    clear hc hS
    simp only [pvSt1]
    simp only [C_X10_at, C_X10_blocks, g0, g1, pvE_iload_n1, pvLI_s, pvLd, pvE_iload_n2, pvE_invokestatic (h0 := eX10_130), pvC1_s, pvC2_s, pvAf_v, pvAf_x, pvPop, pvCs, pvCat, pvPush, aX10_goes_130, pvE_istore, pvS1, List.length_cons, List.length_nil, pvClr_i, pvClr_r, pvClr_l, pvClr_d, pvClr_f, pvClr_n, pvE_aload_n0, pvLA_s, pvE_getfield, pvGf_0, pvGf_1, pvGf_2, fX10_7, pvSh_0, pvSh_1, pvSh_2, pvSh_3, pvSh_4, pvSh_5, pvSh_6, pvSh_7, pvSh_8, pvSh_9, pvSh_10, pvSh_11, pvSh_12, pvSh_13, pvSh_14, pvSh_15, pvSh_16, pvSh_17, pvSh_18, pvSh_19, pvSh_20, pvSh_21, pvSh_22, pvSh_23, pvSh_24, pvSh_25, pvSh_26, pvSh_27, pvSh_28, pvSh_29, pvSh_30, pvSh_31, pvSh_32, pvSh_33, pvSh_34, pvSh_35, pvSh_36, pvSh_37, pvSh_38, pvSh_39, pvSh_40, pvSh_41, pvSh_42, pvSh_43, pvSh_44, pvSh_45, pvSh_46, pvSh_47, pvSh_48, pvSh_49, pvSh_50, pvSh_51, pvSh_52, pvSh_53, pvSh_54, pvSh_55, pvSh_56, pvSh_57, pvSh_58, pvSh_59, pvRf_0_0, pvRf_0_1, pvRf_0_2, pvRf_0_3, pvRf_0_4, pvRf_0_5, pvRf_0_6, pvRf_0_7, pvRf_0_8, pvRf_0_9, pvRf_0_10, pvRf_1_0, pvRf_3_0, pvRf_5_0, pvRf_5_1, pvRf_5_2, pvRf_9_0, pvRf_9_1, pvRf_9_2, pvRf_13_0, pvRf_13_1, pvRf_13_2, pvRf_17_0, pvRf_17_2, pvRf_20_0, pvRf_20_1, pvRf_20_2, pvRf_24_0, pvRf_24_1, pvRf_24_2, pvRf_28_0, pvRf_28_1, pvRf_28_2, pvRf_28_3, pvRf_33_0, pvRf_33_1, pvRf_36_0, pvRf_36_1, pvRf_39_0, pvRf_39_1, pvRf_39_2, pvRf_39_5, pvRf_39_6, pvRf_39_9, pvRf_39_13, pvRf_39_15, pvRf_39_16, pvRf_39_17, pvRf_39_19, pvRf_39_20, pvRf_39_22, pvRf_39_23, pvRf_39_24, pvRf_39_25, pvRf_39_29, pvRf_39_30, pvE_iload, pvE_iaload, pvAI, pvE_iload_n3, pvE_icmp_ne, pvE_iconst, pvE_iadd, pvE_invokevirtual, aX10_goes_154, pvE_if_ge, pvE_goto, pvE_ireturn, bX10_goes_0, uX10_goes_0, bX10_goes_47, uX10_goes_47, bX10_goes_48, uX10_goes_48, pvRecv_r, pvUp_nl, pvUp_same, pvUp_ap, pvSt_ap, pvX_c, pvX_ms, pvX_mn, pvE_nil, pvEn_i, pvEn_r, pvEn_l, pvEn_0, pvEn_s, pvRt, pvRv, pvTh, pvKc, pvGo, pvTgt, Int.toNat_natCast, false_and, and_false, true_and, and_true, if_true, if_false, reduceIte, reduceCtorEq, forall_const, false_or, or_false, true_or, or_true, ne_eq, not_true_eq_false, not_false_eq_true, implies_true, false_implies, Nat.reduceAdd, Nat.reduceSub, Nat.reduceMul, Nat.reduceEqDiff, Nat.reduceLT, Nat.reduceLeDiff, Int.reduceAdd, Int.reduceSub, Int.reduceMul, Int.reduceNeg, Int.reduceToNat, Int.reduceLE, Int.reduceLT, Int.reduceEq, Int.reduceNe, and_self]
    (repeat' (first | with_reducible apply And.intro | intro _))
    all_goals first
      | omega
      | assumption
      | (apply h2; omega)
      | (apply h3; omega)
  · exact h.elim
/-- a word: delays and letters; the valuation before its k-th event's delay -/
def vaF (d l : Nat → Int) : Nat → Int
  | 0 => 215
  | k + 1 => rsF (psF (vaF d l k) (d k)) (l k)
def WdF (n : Int) (d l : Nat → Int) : Prop := (0 ≤ n ∧ n ≤ 10) ∧ ∀ k : Nat, (k : Int) < n → (0 ≤ d k ∧ d k ≤ 4) ∧ 0 ≤ l k ∧ l k ≤ 2
theorem vaF_r {n : Int} {d l : Nat → Int} (h : WdF n d l) (k : Nat) (hk : (k : Int) ≤ n) : 0 ≤ vaF d l k ∧ vaF d l k < 216 := by
  induction k with
  | zero => exact ⟨by show (0 : Int) ≤ 215; decide, by show (215 : Int) < 216; decide⟩
  | succ k ih =>
    have h1 := ih (by omega)
    have h2 := h.2 k (by omega)
    exact rsF_r (psF_r (by omega))
def C_X10_reads : pvC
  | [.inr (.inr (.inl id)), .inl i], z, Q => id = 39 ∧ (WdF (z.1 39 7) (z.1 43) (z.1 44) ∧ 0 ≤ i ∧ i < z.1 39 7) ∧ Q (.inl (some (vI (psF (vaF (z.1 43) (z.1 44) i.toNat) (z.1 43 i.toNat))))) z
  | _, _, _ => False
def bX10_reads : Nat → List (Instr × Nat)
  | 0 => [(.sipush 215, 3), (.istore_n 2, 1), (.iconst 0, 1), (.istore_n 3, 1)]
  | 6 => [(.iload_n 3, 1), (.iload_n 1, 1), (.if_icmp .ge 29, 3), (.iload_n 2, 1), (.aload_n 0, 1), (.getfield 19, 3), (.iload_n 3, 1), (.iaload, 1), (.invokestatic 164, 3), (.aload_n 0, 1), (.getfield 22, 3), (.iload_n 3, 1), (.iaload, 1), (.invokestatic 167, 3), (.istore_n 2, 1), (.iinc 3 1, 3), (.goto (-28), 3)]
  | 37 => [(.iload_n 2, 1), (.aload_n 0, 1), (.getfield 19, 3), (.iload_n 1, 1), (.iaload, 1), (.invokestatic 164, 3), (.ireturn, 1)]
  | _ => []
def uX10_reads : Nat → Option (List Bool)
  | 6 => some [true, true, true, true]
  | _ => none
def aX10_reads : pvCa
  | 164 => some (2, true, 0, 0, C_X10_passes)
  | 167 => some (2, true, 0, 0, C_X10_resets)
  | _ => none
theorem bX10_reads_0 : bX10_reads 0 = [(.sipush 215, 3), (.istore_n 2, 1), (.iconst 0, 1), (.istore_n 3, 1)] := rfl
theorem uX10_reads_0 : uX10_reads 0 = none := rfl
theorem bX10_reads_6 : bX10_reads 6 = [(.iload_n 3, 1), (.iload_n 1, 1), (.if_icmp .ge 29, 3), (.iload_n 2, 1), (.aload_n 0, 1), (.getfield 19, 3), (.iload_n 3, 1), (.iaload, 1), (.invokestatic 164, 3), (.aload_n 0, 1), (.getfield 22, 3), (.iload_n 3, 1), (.iaload, 1), (.invokestatic 167, 3), (.istore_n 2, 1), (.iinc 3 1, 3), (.goto (-28), 3)] := rfl
theorem uX10_reads_6 : uX10_reads 6 = some [true, true, true, true] := rfl
theorem bX10_reads_37 : bX10_reads 37 = [(.iload_n 2, 1), (.aload_n 0, 1), (.getfield 19, 3), (.iload_n 1, 1), (.iaload, 1), (.invokestatic 164, 3), (.ireturn, 1)] := rfl
theorem uX10_reads_37 : uX10_reads 37 = none := rfl
theorem aX10_reads_164 : aX10_reads 164 = some (2, true, 0, 0, C_X10_passes) := rfl
theorem aX10_reads_167 : aX10_reads 167 = some (2, true, 0, 0, C_X10_resets) := rfl
def mX10_reads : Room := { frames := 2, cells := 1, slots := 6, locals := 42 }
set_option maxRecDepth 100000 in
set_option maxHeartbeats 4000000 in
theorem okX10_reads : pvOkM fX10 aX10_reads kX10 eX10 (some .int) bX10_reads uX10_reads 4 C_X10_reads := by
  intro Q SW hc as z h hS hz
  unfold C_X10_reads at h
  split at h
  · rename_i id i
    obtain ⟨rfl, ⟨hw, hi⟩, h2⟩ := h
    obtain ⟨i, rfl⟩ : ∃ n : Nat, i = n := ⟨i.toNat, by omega⟩
    rw [Int.toNat_natCast] at h2
    have hw1 := hw.1
    have hwi := hw.2 i hi.2
    have loop : ∀ (m k : Nat), k + m = i → SW 6 [some (vR 39), some (vI (i : Int)), some (vI (vaF (z.1 43) (z.1 44) k)), some (vI (k : Int))] z := by
      intro m
      induction m using Nat.strongRecOn with
      | _ m ih =>
        intro k hk
        have hv := vaF_r hw k (by omega)
        have hwk := hw.2 k (by omega)
        have hp := psF_r (v := vaF (z.1 43) (z.1 44) k) (d := z.1 43 k) (by omega)
        refine hc 20 _ _ _ fun _ _ => ?_
        simp only [pvSt1]
        simp only [C_X10_passes, C_X10_resets, pvE_sipush, pvE_istore_n2, pvS1, List.length_cons, List.length_nil, pvClr_i, pvClr_r, pvClr_l, pvClr_d, pvClr_f, pvClr_n, pvE_iconst, pvE_istore_n3, pvE_iload_n3, pvLI_s, pvLd, pvE_iload_n1, pvE_icmp_ge, pvE_iload_n2, pvE_aload_n0, pvLA_s, pvE_getfield, pvGf_0, pvGf_1, pvGf_2, fX10_19, pvSh_0, pvSh_1, pvSh_2, pvSh_3, pvSh_4, pvSh_5, pvSh_6, pvSh_7, pvSh_8, pvSh_9, pvSh_10, pvSh_11, pvSh_12, pvSh_13, pvSh_14, pvSh_15, pvSh_16, pvSh_17, pvSh_18, pvSh_19, pvSh_20, pvSh_21, pvSh_22, pvSh_23, pvSh_24, pvSh_25, pvSh_26, pvSh_27, pvSh_28, pvSh_29, pvSh_30, pvSh_31, pvSh_32, pvSh_33, pvSh_34, pvSh_35, pvSh_36, pvSh_37, pvSh_38, pvSh_39, pvSh_40, pvSh_41, pvSh_42, pvSh_43, pvSh_44, pvSh_45, pvSh_46, pvSh_47, pvSh_48, pvSh_49, pvSh_50, pvSh_51, pvSh_52, pvSh_53, pvSh_54, pvSh_55, pvSh_56, pvSh_57, pvSh_58, pvSh_59, pvRf_0_0, pvRf_0_1, pvRf_0_2, pvRf_0_3, pvRf_0_4, pvRf_0_5, pvRf_0_6, pvRf_0_7, pvRf_0_8, pvRf_0_9, pvRf_0_10, pvRf_1_0, pvRf_3_0, pvRf_5_0, pvRf_5_1, pvRf_5_2, pvRf_9_0, pvRf_9_1, pvRf_9_2, pvRf_13_0, pvRf_13_1, pvRf_13_2, pvRf_17_0, pvRf_17_2, pvRf_20_0, pvRf_20_1, pvRf_20_2, pvRf_24_0, pvRf_24_1, pvRf_24_2, pvRf_28_0, pvRf_28_1, pvRf_28_2, pvRf_28_3, pvRf_33_0, pvRf_33_1, pvRf_36_0, pvRf_36_1, pvRf_39_0, pvRf_39_1, pvRf_39_2, pvRf_39_5, pvRf_39_6, pvRf_39_9, pvRf_39_13, pvRf_39_15, pvRf_39_16, pvRf_39_17, pvRf_39_19, pvRf_39_20, pvRf_39_22, pvRf_39_23, pvRf_39_24, pvRf_39_25, pvRf_39_29, pvRf_39_30, pvE_iaload, pvAI, pvE_invokestatic (h0 := eX10_164), pvC1_s, pvC2_s, pvAf_v, pvAf_x, pvPop, pvCs, pvCat, pvPush, aX10_reads_164, fX10_22, pvE_invokestatic (h0 := eX10_167), aX10_reads_167, pvE_iinc, pvIc_s, pvE_goto, pvE_ireturn, bX10_reads_0, uX10_reads_0, bX10_reads_6, uX10_reads_6, bX10_reads_37, uX10_reads_37, pvMk_t, pvMk_f, pvMk_n, pvRecv_r, pvUp_nl, pvUp_same, pvUp_ap, pvSt_ap, pvX_c, pvX_ms, pvX_mn, pvE_nil, pvEn_i, pvEn_r, pvEn_l, pvEn_0, pvEn_s, pvRt, pvRv, pvTh, pvKc, pvGo, pvTgt, Int.toNat_natCast, false_and, and_false, true_and, and_true, if_true, if_false, reduceIte, reduceCtorEq, forall_const, false_or, or_false, true_or, or_true, ne_eq, not_true_eq_false, not_false_eq_true, implies_true, false_implies, Nat.reduceAdd, Nat.reduceSub, Nat.reduceMul, Nat.reduceEqDiff, Nat.reduceLT, Nat.reduceLeDiff, Int.reduceAdd, Int.reduceSub, Int.reduceMul, Int.reduceNeg, Int.reduceToNat, Int.reduceLE, Int.reduceLT, Int.reduceEq, Int.reduceNe, and_self]
        (repeat' (first | with_reducible apply And.intro | intro _))
        all_goals first
          | omega
          | (obtain rfl : k = i := by omega
             exact h2)
          | exact ih (m - 1) (by omega) (k + 1) (by omega)
    refine ⟨Nat.le_of_ble_eq_true rfl, hc 20 _ _ _ fun _ _ => ?_⟩
    simp only [pvSt1]
    simp only [pvE_sipush, pvE_istore_n2, pvS1, List.length_cons, List.length_nil, pvClr_i, pvClr_r, pvClr_l, pvClr_d, pvClr_f, pvClr_n, pvE_iconst, pvE_istore_n3, pvE_iload_n3, pvLI_s, pvLd, pvE_iload_n1, pvE_icmp_ge, pvE_iload_n2, pvE_aload_n0, pvLA_s, pvE_getfield, pvGf_0, pvGf_1, pvGf_2, fX10_19, pvSh_0, pvSh_1, pvSh_2, pvSh_3, pvSh_4, pvSh_5, pvSh_6, pvSh_7, pvSh_8, pvSh_9, pvSh_10, pvSh_11, pvSh_12, pvSh_13, pvSh_14, pvSh_15, pvSh_16, pvSh_17, pvSh_18, pvSh_19, pvSh_20, pvSh_21, pvSh_22, pvSh_23, pvSh_24, pvSh_25, pvSh_26, pvSh_27, pvSh_28, pvSh_29, pvSh_30, pvSh_31, pvSh_32, pvSh_33, pvSh_34, pvSh_35, pvSh_36, pvSh_37, pvSh_38, pvSh_39, pvSh_40, pvSh_41, pvSh_42, pvSh_43, pvSh_44, pvSh_45, pvSh_46, pvSh_47, pvSh_48, pvSh_49, pvSh_50, pvSh_51, pvSh_52, pvSh_53, pvSh_54, pvSh_55, pvSh_56, pvSh_57, pvSh_58, pvSh_59, pvRf_0_0, pvRf_0_1, pvRf_0_2, pvRf_0_3, pvRf_0_4, pvRf_0_5, pvRf_0_6, pvRf_0_7, pvRf_0_8, pvRf_0_9, pvRf_0_10, pvRf_1_0, pvRf_3_0, pvRf_5_0, pvRf_5_1, pvRf_5_2, pvRf_9_0, pvRf_9_1, pvRf_9_2, pvRf_13_0, pvRf_13_1, pvRf_13_2, pvRf_17_0, pvRf_17_2, pvRf_20_0, pvRf_20_1, pvRf_20_2, pvRf_24_0, pvRf_24_1, pvRf_24_2, pvRf_28_0, pvRf_28_1, pvRf_28_2, pvRf_28_3, pvRf_33_0, pvRf_33_1, pvRf_36_0, pvRf_36_1, pvRf_39_0, pvRf_39_1, pvRf_39_2, pvRf_39_5, pvRf_39_6, pvRf_39_9, pvRf_39_13, pvRf_39_15, pvRf_39_16, pvRf_39_17, pvRf_39_19, pvRf_39_20, pvRf_39_22, pvRf_39_23, pvRf_39_24, pvRf_39_25, pvRf_39_29, pvRf_39_30, pvE_iaload, pvAI, pvE_invokestatic (h0 := eX10_164), pvC1_s, pvC2_s, pvAf_v, pvAf_x, pvPop, pvCs, pvCat, pvPush, aX10_reads_164, fX10_22, pvE_invokestatic (h0 := eX10_167), aX10_reads_167, pvE_iinc, pvIc_s, pvE_goto, pvE_ireturn, bX10_reads_0, uX10_reads_0, bX10_reads_6, uX10_reads_6, bX10_reads_37, uX10_reads_37, pvMk_t, pvMk_f, pvMk_n, pvRecv_r, pvUp_nl, pvUp_same, pvUp_ap, pvSt_ap, pvX_c, pvX_ms, pvX_mn, pvE_nil, pvEn_i, pvEn_r, pvEn_l, pvEn_0, pvEn_s, pvRt, pvRv, pvTh, pvKc, pvGo, pvTgt, Int.toNat_natCast, false_and, and_false, true_and, and_true, if_true, if_false, reduceIte, reduceCtorEq, forall_const, false_or, or_false, true_or, or_true, ne_eq, not_true_eq_false, not_false_eq_true, implies_true, false_implies, Nat.reduceAdd, Nat.reduceSub, Nat.reduceMul, Nat.reduceEqDiff, Nat.reduceLT, Nat.reduceLeDiff, Int.reduceAdd, Int.reduceSub, Int.reduceMul, Int.reduceNeg, Int.reduceToNat, Int.reduceLE, Int.reduceLT, Int.reduceEq, Int.reduceNe, and_self]
    refine ⟨by omega, loop i 0 (by omega)⟩
  · exact h.elim
theorem rS_n {f : Nat → Int} {s E : Int} (hs : 0 ≤ s) (h : E = 163 * s + 2) : f E.toNat = (autR f s).1 := by
  show f E.toNat = f (163 * s.toNat + 2)
  rw [show E.toNat = 163 * s.toNat + 2 by omega]
theorem rS_i {f : Nat → Int} {s E : Int} (hs : 0 ≤ s) (h : E = 163 * s) : f E.toNat = (autR f s).2.1 := by
  show f E.toNat = f (163 * s.toNat)
  rw [show E.toNat = 163 * s.toNat by omega]
theorem rS_f {f : Nat → Int} {s E : Int} (hs : 0 ≤ s) (h : E = 163 * s + 1) : f E.toNat = (autR f s).2.2.1 := by
  show f E.toNat = f (163 * s.toNat + 1)
  rw [show E.toNat = 163 * s.toNat + 1 by omega]
def C_X10_successor : pvC
  | [.inr (.inr (.inl id)), .inl s, .inl set, .inl a, .inl v], z, Q => id = 39 ∧ ((0 ≤ s ∧ s ≤ 1) ∧ WfA (autR (z.1 40) s) ∧ (0 ≤ set ∧ set ≤ 15) ∧ 0 ≤ v ∧ v < 216) ∧ Q (.inl (some (vI (sbF (autR (z.1 40) s) set a v)))) z
  | _, _, _ => False
def bX10_successor : Nat → List (Instr × Nat)
  | 0 => [(.iconst 0, 1), (.istore 5, 2), (.iconst 0, 1), (.istore 6, 2)]
  | 6 => [(.iload 6, 2), (.aload_n 0, 1), (.getfield 7, 3), (.sipush 163, 3), (.iload_n 1, 1), (.imul, 1), (.iconst 2, 1), (.iadd, 1), (.iaload, 1), (.if_icmp .ge 72, 3), (.iload_n 2, 1), (.aload_n 0, 1), (.getfield 7, 3), (.iload_n 1, 1), (.iload 6, 2), (.invokestatic 130, 3), (.iaload, 1), (.ishr, 1), (.iconst 1, 1), (.iand, 1), (.iconst 1, 1), (.if_icmp .ne 47, 3), (.aload_n 0, 1), (.iload_n 1, 1), (.iload 6, 2), (.aload_n 0, 1), (.getfield 7, 3), (.iload_n 1, 1), (.iload 6, 2), (.invokestatic 130, 3), (.iaload, 1), (.iload_n 3, 1), (.iload 4, 2), (.invokevirtual 176, 3), (.ifCond .eq 23, 3), (.iload 5, 2), (.iconst 1, 1), (.aload_n 0, 1), (.getfield 7, 3), (.iload_n 1, 1), (.iload 6, 2), (.invokestatic 130, 3), (.iconst 2, 1), (.iadd, 1), (.iaload, 1), (.ishl, 1), (.ior, 1), (.istore 5, 2)]
  | 86 => [(.iinc 6 1, 3), (.goto (-83), 3)]
  | 92 => [(.iload 5, 2), (.ireturn, 1)]
  | _ => []
def uX10_successor : Nat → Option (List Bool)
  | 6 => some [true, true, true, true, true, true, true]
  | _ => none
def aX10_successor : pvCa
  | 130 => some (2, true, 0, 0, C_X10_at)
  | 176 => some (6, false, 9, 0, C_X10_goes)
  | _ => none
theorem bX10_successor_0 : bX10_successor 0 = [(.iconst 0, 1), (.istore 5, 2), (.iconst 0, 1), (.istore 6, 2)] := rfl
theorem uX10_successor_0 : uX10_successor 0 = none := rfl
theorem bX10_successor_6 : bX10_successor 6 = [(.iload 6, 2), (.aload_n 0, 1), (.getfield 7, 3), (.sipush 163, 3), (.iload_n 1, 1), (.imul, 1), (.iconst 2, 1), (.iadd, 1), (.iaload, 1), (.if_icmp .ge 72, 3), (.iload_n 2, 1), (.aload_n 0, 1), (.getfield 7, 3), (.iload_n 1, 1), (.iload 6, 2), (.invokestatic 130, 3), (.iaload, 1), (.ishr, 1), (.iconst 1, 1), (.iand, 1), (.iconst 1, 1), (.if_icmp .ne 47, 3), (.aload_n 0, 1), (.iload_n 1, 1), (.iload 6, 2), (.aload_n 0, 1), (.getfield 7, 3), (.iload_n 1, 1), (.iload 6, 2), (.invokestatic 130, 3), (.iaload, 1), (.iload_n 3, 1), (.iload 4, 2), (.invokevirtual 176, 3), (.ifCond .eq 23, 3), (.iload 5, 2), (.iconst 1, 1), (.aload_n 0, 1), (.getfield 7, 3), (.iload_n 1, 1), (.iload 6, 2), (.invokestatic 130, 3), (.iconst 2, 1), (.iadd, 1), (.iaload, 1), (.ishl, 1), (.ior, 1), (.istore 5, 2)] := rfl
theorem uX10_successor_6 : uX10_successor 6 = some [true, true, true, true, true, true, true] := rfl
theorem bX10_successor_86 : bX10_successor 86 = [(.iinc 6 1, 3), (.goto (-83), 3)] := rfl
theorem uX10_successor_86 : uX10_successor 86 = none := rfl
theorem bX10_successor_92 : bX10_successor 92 = [(.iload 5, 2), (.ireturn, 1)] := rfl
theorem uX10_successor_92 : uX10_successor 92 = none := rfl
theorem aX10_successor_130 : aX10_successor 130 = some (2, true, 0, 0, C_X10_at) := rfl
theorem aX10_successor_176 : aX10_successor 176 = some (6, false, 9, 0, C_X10_goes) := rfl
def mX10_successor : Room := { frames := 3, cells := 1, slots := 6, locals := 73 }
set_option maxRecDepth 100000 in
set_option maxHeartbeats 4000000 in
theorem okX10_successor : pvOkM fX10 aX10_successor kX10 eX10 (some .int) bX10_successor uX10_successor 7 C_X10_successor := by
  intro Q SW hc as z h hS hz
  unfold C_X10_successor at h
  split at h
  · rename_i id s set a v
    obtain ⟨rfl, ⟨hs, hw, hset, hv⟩, h2⟩ := h
    have hn := hw.1
    have gn : z.1 40 (163 * s + 2).toNat = (autR (z.1 40) s).1 := rS_n hs.1 rfl
    have hr := fun k (hk : k ≤ (autR (z.1 40) s).1.toNat) => sbK_r (n := (autR (z.1 40) s).1.toNat) (fun t ht => (hw.2.2.2 t (by omega)).2.2.1) set a v k hk
    have loop : ∀ (m k : Nat), (k : Int) + m = (autR (z.1 40) s).1 → SW 6 [some (vR 39), some (vI s), some (vI set), some (vI a), some (vI v), some (vI (sbK (autR (z.1 40) s).2.2.2 set a v k)), some (vI (k : Int))] z := by
      intro m
      induction m using Nat.strongRecOn with
      | _ m ih =>
        intro k hk
        have g0 : z.1 40 (163 * s + 3 + 16 * (k : Int)).toNat = rT (z.1 40) s k 0 := rT_eq (z.1 40) hs.1 (by omega)
        have g2 : z.1 40 (163 * s + 3 + 16 * (k : Int) + 2).toNat = rT (z.1 40) s k 2 := rT_eq (z.1 40) hs.1 (by omega)
        have hrk := hr k (by omega)
        refine hc 20 _ _ _ fun _ _ => ?_
        simp only [pvSt1]
        simp only [C_X10_at, C_X10_goes, gn, g0, g2, pvE_iconst, pvE_istore, pvS1, List.length_cons, List.length_nil, pvClr_i, pvClr_r, pvClr_l, pvClr_d, pvClr_f, pvClr_n, pvE_iload, pvLI_s, pvLd, pvE_aload_n0, pvLA_s, pvE_getfield, pvGf_0, pvGf_1, pvGf_2, fX10_7, pvSh_0, pvSh_1, pvSh_2, pvSh_3, pvSh_4, pvSh_5, pvSh_6, pvSh_7, pvSh_8, pvSh_9, pvSh_10, pvSh_11, pvSh_12, pvSh_13, pvSh_14, pvSh_15, pvSh_16, pvSh_17, pvSh_18, pvSh_19, pvSh_20, pvSh_21, pvSh_22, pvSh_23, pvSh_24, pvSh_25, pvSh_26, pvSh_27, pvSh_28, pvSh_29, pvSh_30, pvSh_31, pvSh_32, pvSh_33, pvSh_34, pvSh_35, pvSh_36, pvSh_37, pvSh_38, pvSh_39, pvSh_40, pvSh_41, pvSh_42, pvSh_43, pvSh_44, pvSh_45, pvSh_46, pvSh_47, pvSh_48, pvSh_49, pvSh_50, pvSh_51, pvSh_52, pvSh_53, pvSh_54, pvSh_55, pvSh_56, pvSh_57, pvSh_58, pvSh_59, pvRf_0_0, pvRf_0_1, pvRf_0_2, pvRf_0_3, pvRf_0_4, pvRf_0_5, pvRf_0_6, pvRf_0_7, pvRf_0_8, pvRf_0_9, pvRf_0_10, pvRf_1_0, pvRf_3_0, pvRf_5_0, pvRf_5_1, pvRf_5_2, pvRf_9_0, pvRf_9_1, pvRf_9_2, pvRf_13_0, pvRf_13_1, pvRf_13_2, pvRf_17_0, pvRf_17_2, pvRf_20_0, pvRf_20_1, pvRf_20_2, pvRf_24_0, pvRf_24_1, pvRf_24_2, pvRf_28_0, pvRf_28_1, pvRf_28_2, pvRf_28_3, pvRf_33_0, pvRf_33_1, pvRf_36_0, pvRf_36_1, pvRf_39_0, pvRf_39_1, pvRf_39_2, pvRf_39_5, pvRf_39_6, pvRf_39_9, pvRf_39_13, pvRf_39_15, pvRf_39_16, pvRf_39_17, pvRf_39_19, pvRf_39_20, pvRf_39_22, pvRf_39_23, pvRf_39_24, pvRf_39_25, pvRf_39_29, pvRf_39_30, pvE_sipush, pvE_iload_n1, pvE_imul, pvE_iadd, pvE_iaload, pvAI, pvE_icmp_ge, pvE_iload_n2, pvE_invokestatic (h0 := eX10_130), pvC1_s, pvC2_s, pvAf_v, pvAf_x, pvPop, pvCs, pvCat, pvPush, aX10_successor_130, pvE_ishr, pvE_iand, pvE_icmp_ne, pvE_iload_n3, pvE_invokevirtual, aX10_successor_176, pvE_if_eq, pvE_ishl, pvE_ior, pvE_iinc, pvIc_s, pvE_goto, pvE_ireturn, bX10_successor_0, uX10_successor_0, bX10_successor_6, uX10_successor_6, bX10_successor_86, uX10_successor_86, bX10_successor_92, uX10_successor_92, pvMk_t, pvMk_f, pvMk_n, pvRecv_r, pvUp_nl, pvUp_same, pvUp_ap, pvSt_ap, pvX_c, pvX_ms, pvX_mn, pvE_nil, pvEn_i, pvEn_r, pvEn_l, pvEn_0, pvEn_s, pvRt, pvRv, pvTh, pvKc, pvGo, pvTgt, Int.toNat_natCast, false_and, and_false, true_and, and_true, if_true, if_false, reduceIte, reduceCtorEq, forall_const, false_or, or_false, true_or, or_true, ne_eq, not_true_eq_false, not_false_eq_true, implies_true, false_implies, Nat.reduceAdd, Nat.reduceSub, Nat.reduceMul, Nat.reduceEqDiff, Nat.reduceLT, Nat.reduceLeDiff, Int.reduceAdd, Int.reduceSub, Int.reduceMul, Int.reduceNeg, Int.reduceToNat, Int.reduceLE, Int.reduceLT, Int.reduceEq, Int.reduceNe, and_self]
        by_cases hkn : (autR (z.1 40) s).1 ≤ k
        · obtain rfl : k = (autR (z.1 40) s).1.toNat := by omega
          (repeat' (first | with_reducible apply And.intro | intro _))
          all_goals first
            | omega
            | exact h2
        · have hT := autR_w hw (show (k : Int) < (autR (z.1 40) s).1 by omega)
          have e := autR_T (show (k : Int) < (autR (z.1 40) s).1 by omega)
          have hT0 := hT.1
          have hT2 := hT.2.2.1
          have e0 : (autR (z.1 40) s).2.2.2 k 0 = rT (z.1 40) s k 0 := by rw [e, nrT_s (by decide)]
          have e2 : (autR (z.1 40) s).2.2.2 k 2 = rT (z.1 40) s k 2 := by rw [e, nrT_s (by decide)]
          have hsh := bt_eq (s := set) (q := rT (z.1 40) s k 0) (by omega)
          have hor := or15 hrk hT2
          have hstep : sbK (autR (z.1 40) s).2.2.2 set a v (k + 1) = if btF set (rT (z.1 40) s k 0) = true ∧ (autR (z.1 40) s).2.2.2 k 1 = a ∧ blF ((autR (z.1 40) s).2.2.2 k) v < 0 then pvOr (sbK (autR (z.1 40) s).2.2.2 set a v k) (pvShl 1 (rT (z.1 40) s k 2)) else sbK (autR (z.1 40) s).2.2.2 set a v k := by
            simp only [sbK, e0, e2]
          have ihk : SW 6 [some (vR 39), some (vI s), some (vI set), some (vI a), some (vI v), some (vI (sbK (autR (z.1 40) s).2.2.2 set a v (k + 1))), some (vI ((k : Int) + 1))] z := ih (m - 1) (by omega) (k + 1) (by omega)
          rw [hstep] at ihk
          rw [hsh, e0]
          (repeat' (first | with_reducible apply And.intro | intro _))
          all_goals first
            | omega
            | assumption
            | grind
    refine ⟨Nat.le_of_ble_eq_true rfl, hc 20 _ _ _ fun _ _ => ?_⟩
    simp only [pvSt1]
    simp only [pvE_iconst, pvE_istore, pvS1, List.length_cons, List.length_nil, pvClr_i, pvClr_r, pvClr_l, pvClr_d, pvClr_f, pvClr_n, pvE_iload, pvLI_s, pvLd, pvE_aload_n0, pvLA_s, pvE_getfield, pvGf_0, pvGf_1, pvGf_2, fX10_7, pvSh_0, pvSh_1, pvSh_2, pvSh_3, pvSh_4, pvSh_5, pvSh_6, pvSh_7, pvSh_8, pvSh_9, pvSh_10, pvSh_11, pvSh_12, pvSh_13, pvSh_14, pvSh_15, pvSh_16, pvSh_17, pvSh_18, pvSh_19, pvSh_20, pvSh_21, pvSh_22, pvSh_23, pvSh_24, pvSh_25, pvSh_26, pvSh_27, pvSh_28, pvSh_29, pvSh_30, pvSh_31, pvSh_32, pvSh_33, pvSh_34, pvSh_35, pvSh_36, pvSh_37, pvSh_38, pvSh_39, pvSh_40, pvSh_41, pvSh_42, pvSh_43, pvSh_44, pvSh_45, pvSh_46, pvSh_47, pvSh_48, pvSh_49, pvSh_50, pvSh_51, pvSh_52, pvSh_53, pvSh_54, pvSh_55, pvSh_56, pvSh_57, pvSh_58, pvSh_59, pvRf_0_0, pvRf_0_1, pvRf_0_2, pvRf_0_3, pvRf_0_4, pvRf_0_5, pvRf_0_6, pvRf_0_7, pvRf_0_8, pvRf_0_9, pvRf_0_10, pvRf_1_0, pvRf_3_0, pvRf_5_0, pvRf_5_1, pvRf_5_2, pvRf_9_0, pvRf_9_1, pvRf_9_2, pvRf_13_0, pvRf_13_1, pvRf_13_2, pvRf_17_0, pvRf_17_2, pvRf_20_0, pvRf_20_1, pvRf_20_2, pvRf_24_0, pvRf_24_1, pvRf_24_2, pvRf_28_0, pvRf_28_1, pvRf_28_2, pvRf_28_3, pvRf_33_0, pvRf_33_1, pvRf_36_0, pvRf_36_1, pvRf_39_0, pvRf_39_1, pvRf_39_2, pvRf_39_5, pvRf_39_6, pvRf_39_9, pvRf_39_13, pvRf_39_15, pvRf_39_16, pvRf_39_17, pvRf_39_19, pvRf_39_20, pvRf_39_22, pvRf_39_23, pvRf_39_24, pvRf_39_25, pvRf_39_29, pvRf_39_30, pvE_sipush, pvE_iload_n1, pvE_imul, pvE_iadd, pvE_iaload, pvAI, pvE_icmp_ge, pvE_iload_n2, pvE_invokestatic (h0 := eX10_130), pvC1_s, pvC2_s, pvAf_v, pvAf_x, pvPop, pvCs, pvCat, pvPush, aX10_successor_130, pvE_ishr, pvE_iand, pvE_icmp_ne, pvE_iload_n3, pvE_invokevirtual, aX10_successor_176, pvE_if_eq, pvE_ishl, pvE_ior, pvE_iinc, pvIc_s, pvE_goto, pvE_ireturn, bX10_successor_0, uX10_successor_0, bX10_successor_6, uX10_successor_6, bX10_successor_86, uX10_successor_86, bX10_successor_92, uX10_successor_92, pvMk_t, pvMk_f, pvMk_n, pvRecv_r, pvUp_nl, pvUp_same, pvUp_ap, pvSt_ap, pvX_c, pvX_ms, pvX_mn, pvE_nil, pvEn_i, pvEn_r, pvEn_l, pvEn_0, pvEn_s, pvRt, pvRv, pvTh, pvKc, pvGo, pvTgt, Int.toNat_natCast, false_and, and_false, true_and, and_true, if_true, if_false, reduceIte, reduceCtorEq, forall_const, false_or, or_false, true_or, or_true, ne_eq, not_true_eq_false, not_false_eq_true, implies_true, false_implies, Nat.reduceAdd, Nat.reduceSub, Nat.reduceMul, Nat.reduceEqDiff, Nat.reduceLT, Nat.reduceLeDiff, Int.reduceAdd, Int.reduceSub, Int.reduceMul, Int.reduceNeg, Int.reduceToNat, Int.reduceLE, Int.reduceLT, Int.reduceEq, Int.reduceNe, and_self]
    (repeat' (first | with_reducible apply And.intro | intro _))
    all_goals first
      | omega
      | exact loop (autR (z.1 40) s).1.toNat 0 (by omega)
  · exact h.elim
