/-! the class: what is read of transitions -/
def agN (n : Nat) : Nat → Nat
  | 0 => 0
  | v + 1 => agN n v + (if alF (n : Int) (v : Nat) = true then 1 else 0)
def biN (n j : Nat) : Nat := if n.testBit j = true then 1 else 0
theorem ag_1 (n w y : Nat) (hy : y < 6) (x : Nat) (hx : x ≤ 6) : agN n (36 * w + 6 * y + x) = agN n (36 * w + 6 * y) + biN (n >>> 12) w * (biN (n >>> 6) y * pcK n x) := by
  induction x with
  | zero => simp [pcK]
  | succ x ih =>
    have e1 := ih (by omega)
    rw [← Nat.add_assoc]
    simp only [agN, pcK]
    rw [e1, Nat.mul_add, Nat.mul_add, Nat.add_assoc]
    congr 2
    have ea : alF (n : Int) ((36 * w + 6 * y + x : Nat) : Int) = (n.testBit x && n.testBit (6 + y) && n.testBit (12 + w)) := by
      unfold alF
      rw [Int.toNat_natCast, show (((36 * w + 6 * y + x : Nat) : Int) % 6).toNat = x by omega, show 6 + (((36 * w + 6 * y + x : Nat) : Int) / 6 % 6).toNat = 6 + y by omega, show 12 + (((36 * w + 6 * y + x : Nat) : Int) / 36).toNat = 12 + w by omega]
    rw [ea]
    unfold biN
    rw [Nat.testBit_shiftRight, Nat.testBit_shiftRight]
    cases n.testBit x <;> cases n.testBit (6 + y) <;> cases n.testBit (12 + w) <;> rfl
theorem ag_2 (n w y : Nat) (hy : y ≤ 6) : agN n (36 * w + 6 * y) = agN n (36 * w) + biN (n >>> 12) w * (pcK n 6 * pcK (n >>> 6) y) := by
  induction y with
  | zero => simp [pcK]
  | succ y ih =>
    have e1 := ag_1 n w y (by omega) 6 (by omega)
    rw [show 36 * w + 6 * (y + 1) = 36 * w + 6 * y + 6 by omega, e1, ih (by omega)]
    have e2 : pcK (n >>> 6) (y + 1) = pcK (n >>> 6) y + biN (n >>> 6) y := rfl
    rw [e2, Nat.mul_add, Nat.mul_add, Nat.add_assoc, Nat.mul_comm (biN (n >>> 6) y)]
theorem ag_3 (n w : Nat) : agN n (36 * w) = pcK n 6 * pcK (n >>> 6) 6 * pcK (n >>> 12) w := by
  induction w with
  | zero => simp [pcK, agN]
  | succ w ih =>
    have e1 := ag_2 n w 6 (by omega)
    rw [show 36 * (w + 1) = 36 * w + 6 * 6 by omega, e1, ih]
    have e2 : pcK (n >>> 12) (w + 1) = pcK (n >>> 12) w + biN (n >>> 12) w := rfl
    rw [e2, Nat.mul_add, Nat.mul_comm (biN (n >>> 12) w)]
theorem pcK_63 (n : Nat) (k : Nat) : pcK (n &&& 63) (6 + k) = pcK n 6 := by
  have t : ∀ j, (n &&& 63).testBit j = (n.testBit j && decide (j < 6)) := fun j => by
    rw [Nat.testBit_and, show (63 : Nat) = 2 ^ 6 - 1 from rfl, Nat.testBit_two_pow_sub_one]
  induction k with
  | zero =>
    have : ∀ m, m ≤ 6 → pcK (n &&& 63) m = pcK n m := by
      intro m
      induction m with
      | zero => intro _; rfl
      | succ m ih =>
        intro hm
        simp only [pcK]
        rw [ih (by omega), t m]
        simp [show m < 6 by omega]
    exact this 6 (by omega)
  | succ k ih =>
    show pcK (n &&& 63) (6 + k) + (if (n &&& 63).testBit (6 + k) = true then 1 else 0) = _
    rw [ih, t (6 + k), show decide (6 + k < 6) = false from decide_eq_false (by omega), Bool.and_false, if_neg (by decide), Nat.add_zero]
theorem cn_ag {n : Nat} (h : n < 262144) : cnF (n : Int) = (agN n 216 : Nat) := by
  have e6 := pvShr_n (a := (n : Int)) (k := 6) (by omega) (by omega) (by omega) (by omega)
  have e12 := pvShr_n (a := (n : Int)) (k := 12) (by omega) (by omega) (by omega) (by omega)
  have s6 := shr_le n 6
  have s12 := shr_le n 12
  have t6 : (6 : Int).toNat = 6 := rfl
  have t12 : (12 : Int).toNat = 12 := rfl
  rw [Int.toNat_natCast, t6] at e6
  rw [Int.toNat_natCast, t12] at e12
  have a : ∀ m : Nat, m < 262144 → pcF (pvAnd (m : Int) 63) = (pcK m 6 : Nat) := by
    intro m hm
    have b := pvAnd_n (x := m) (y := 63) (by omega) (by decide)
    have e : pvAnd (m : Int) 63 = ((m &&& 63 : Nat) : Int) := b
    rw [e]
    unfold pcF
    rw [Int.toNat_natCast, pcK_63 m 10]
  unfold cnF
  rw [e6, e12, a n h, a (n >>> 6) (by omega), a (n >>> 12) (by omega), show (216 : Nat) = 36 * 6 from rfl, ag_3]
  simp
theorem cn_sv {T : Nat → Int} {a : Int} (ha : 0 ≤ a ∧ a < 262144) (h : ∀ v : Nat, v < 216 → (alF a v = true ↔ blF T v < 0)) : cnF a = svK T 216 := by
  obtain ⟨n, rfl⟩ : ∃ n : Nat, a = n := ⟨a.toNat, by omega⟩
  rw [cn_ag (by omega)]
  have : ∀ k : Nat, k ≤ 216 → svK T k = (agN n k : Nat) := by
    intro k
    induction k with
    | zero => intro _; rfl
    | succ k ih =>
      intro hk
      simp only [svK, agN]
      rw [ih (by omega)]
      have := h k (by omega)
      by_cases hb : blF T k < 0
      · rw [if_pos hb, if_pos (this.mpr hb)]; omega
      · rw [if_neg hb, if_neg (fun q => hb (this.mp q))]; omega
  exact (this 216 (by omega)).symm
def C_X9_transition : pvC
  | [.inr (.inr (.inl id)), .inl s, .inl t, .inl c], z, Q => id = 0 ∧ (0 ≤ s ∧ s ≤ 1 → WfC (z.1 (rwC s))) ∧
      (trC z s t ∧ 0 ≤ c ∧ c ≤ 3 → Q (.inl (some (vI ((autC (z.1 (rwC s))).2.2.2 t.toNat c.toNat)))) z) ∧ (¬ (trC z s t ∧ 0 ≤ c ∧ c ≤ 3) → Q (.inr 0) z)
  | _, _, _ => False
def bX9_transition : Nat → List (Instr × Nat)
  | 0 => [(.aload_n 0, 1), (.iload_n 1, 1), (.iload_n 2, 1), (.invokevirtual 119, 3), (.iload_n 3, 1), (.iconst 4, 1), (.invokestatic 97, 3), (.aload_n 0, 1), (.iload_n 1, 1), (.invokevirtual 104, 3), (.iload_n 2, 1), (.iload_n 3, 1), (.invokevirtual 153, 3), (.ireturn, 1)]
  | _ => []
def uX9_transition : Nat → Option (List Bool)
  | _ => none
def aX9_transition : pvCa
  | 97 => some (2, true, 0, 0, C_X9_requireIndex)
  | 104 => some (2, false, 8, 0, C_X9_automaton)
  | 119 => some (3, false, 8, 0, C_X9_requireTransition)
  | 153 => some (3, false, 0, 0, C_X0_cell)
  | _ => none
theorem bX9_transition_0 : bX9_transition 0 = [(.aload_n 0, 1), (.iload_n 1, 1), (.iload_n 2, 1), (.invokevirtual 119, 3), (.iload_n 3, 1), (.iconst 4, 1), (.invokestatic 97, 3), (.aload_n 0, 1), (.iload_n 1, 1), (.invokevirtual 104, 3), (.iload_n 2, 1), (.iload_n 3, 1), (.invokevirtual 153, 3), (.ireturn, 1)] := rfl
theorem uX9_transition_0 : uX9_transition 0 = none := rfl
theorem aX9_transition_97 : aX9_transition 97 = some (2, true, 0, 0, C_X9_requireIndex) := rfl
theorem aX9_transition_104 : aX9_transition 104 = some (2, false, 8, 0, C_X9_automaton) := rfl
theorem aX9_transition_119 : aX9_transition 119 = some (3, false, 8, 0, C_X9_requireTransition) := rfl
theorem aX9_transition_153 : aX9_transition 153 = some (3, false, 0, 0, C_X0_cell) := rfl
def mX9_transition : Room := { frames := 8, cells := 1, slots := 6, locals := 124 }
set_option maxRecDepth 100000 in
set_option maxHeartbeats 4000000 in
theorem okX9_transition : pvOkM fX9 aX9_transition kX9 eX9 (some .int) bX9_transition uX9_transition 4 C_X9_transition := by
  intro Q SW hc as z h hS hz
  unfold C_X9_transition at h
  split at h
  · rename_i id s t c
    obtain ⟨rfl, hw, h1, h2⟩ := h
    refine ⟨Nat.le_of_ble_eq_true rfl, hc 20 _ _ _ fun _ _ => ?_⟩
    clear hc hS hz
    simp only [pvSt1]
    simp only [C_X9_requireTransition, C_X9_requireIndex, C_X9_automaton, C_X0_cell, pvE_aload_n0, pvLA_s, pvLd, pvE_iload_n1, pvLI_s, pvE_iload_n2, pvE_invokevirtual, pvC1_s, pvC2_s, pvAf_v, pvAf_x, pvPop, pvCs, pvCat, pvPush, aX9_transition_119, pvSh_0, pvSh_1, pvSh_2, pvSh_3, pvSh_4, pvSh_5, pvSh_6, pvSh_7, pvSh_8, pvSh_9, pvSh_10, pvSh_11, pvSh_12, pvSh_13, pvSh_14, pvSh_15, pvSh_16, pvSh_17, pvSh_18, pvSh_19, pvSh_20, pvSh_21, pvSh_22, pvSh_23, pvSh_24, pvSh_25, pvSh_26, pvSh_27, pvSh_28, pvSh_29, pvSh_30, pvSh_31, pvSh_32, pvSh_33, pvSh_34, pvSh_35, pvSh_36, pvSh_37, pvSh_38, pvSh_39, pvSh_40, pvSh_41, pvSh_42, pvSh_43, pvSh_44, pvSh_45, pvSh_46, pvSh_47, pvSh_48, pvSh_49, pvSh_50, pvSh_51, pvSh_52, pvSh_53, pvSh_54, pvSh_55, pvSh_56, pvSh_57, pvSh_58, pvSh_59, pvE_iload_n3, pvE_iconst, pvE_invokestatic (h0 := eX9_97), aX9_transition_97, aX9_transition_104, aX9_transition_153, pvE_ireturn, bX9_transition_0, uX9_transition_0, pvRecv_r, pvUp_nl, pvUp_same, pvUp_ap, pvSt_ap, pvX_c, pvX_ms, pvX_mn, pvE_nil, pvEn_i, pvEn_r, pvEn_l, pvEn_0, pvEn_s, pvRt, pvRv, pvTh, pvKc, pvGo, pvTgt, Int.toNat_natCast, false_and, and_false, true_and, and_true, if_true, if_false, reduceIte, reduceCtorEq, forall_const, false_or, or_false, true_or, or_true, ne_eq, not_true_eq_false, not_false_eq_true, implies_true, false_implies, Nat.reduceAdd, Nat.reduceSub, Nat.reduceMul, Nat.reduceEqDiff, Nat.reduceLT, Nat.reduceLeDiff, Int.reduceAdd, Int.reduceSub, Int.reduceMul, Int.reduceNeg, Int.reduceToNat, Int.reduceLE, Int.reduceLT, Int.reduceEq, Int.reduceNe, and_self]
    by_cases hv : trC z s t
    · have hw2 := hw hv.1
      have hn := hw2.1.1
      by_cases hx : 0 ≤ c ∧ c ≤ 3
      · have h3 := h1 ⟨hv, hx⟩
        have hv2 := hv.2
        rcases (show s = 0 ∨ s = 1 by have := hv.1; omega) with rfl | rfl
        · have e : rwC 0 = 2 := rfl
          rw [e] at h3 hv2 hn
          rw [aC_c (show ((t.toNat : Nat) : Int) < z.1 2 0 by have : t < z.1 2 0 := hv2.2; omega) (Or.inl (by omega))] at h3
          (repeat' first | with_reducible apply And.intro | with_reducible intro _) <;> first | omega | assumption | contradiction
        · have e : rwC 1 = 4 := rfl
          rw [e] at h3 hv2 hn
          rw [aC_c (show ((t.toNat : Nat) : Int) < z.1 4 0 by have : t < z.1 4 0 := hv2.2; omega) (Or.inl (by omega))] at h3
          (repeat' first | with_reducible apply And.intro | with_reducible intro _) <;> first | omega | assumption | contradiction
      · have h3 := h2 (fun q => hx q.2)
        (repeat' first | with_reducible apply And.intro | with_reducible intro _) <;> first | omega | assumption | contradiction
    · have h3 := h2 (fun q => hv q.1)
      (repeat' first | with_reducible apply And.intro | with_reducible intro _) <;> first | omega | assumption | contradiction
  · exact h.elim
def C_X9_satisfyingValuations : pvC
  | [.inr (.inr (.inl id)), .inl s, .inl t], z, Q => id = 0 ∧ (0 ≤ s ∧ s ≤ 1 → WfC (z.1 (rwC s))) ∧
      (trC z s t → Q (.inl (some (vI (svK ((autC (z.1 (rwC s))).2.2.2 t.toNat) 216)))) z) ∧ (¬ trC z s t → Q (.inr 0) z)
  | _, _, _ => False
theorem aC_sv {f : Nat → Int} (h : WfC f) {t : Nat} (ht : (t : Int) < f 0) : (0 ≤ cT f t 16 ∧ cT f t 16 < 262144) ∧ cnF (cT f t 16) = svK ((autC f).2.2.2 t) 216 := by
  obtain ⟨a, b⟩ := h.2 t ht
  refine ⟨a, cn_sv a fun v hv => ?_⟩
  rw [b v hv, autC_T ht, blF_nr]
def bX9_satisfyingValuations : Nat → List (Instr × Nat)
  | 0 => [(.aload_n 0, 1), (.iload_n 1, 1), (.iload_n 2, 1), (.invokevirtual 119, 3), (.aload_n 0, 1), (.iload_n 1, 1), (.invokevirtual 104, 3), (.iload_n 2, 1), (.invokevirtual 164, 3), (.invokestatic 167, 3), (.ireturn, 1)]
  | _ => []
def uX9_satisfyingValuations : Nat → Option (List Bool)
  | _ => none
def aX9_satisfyingValuations : pvCa
  | 104 => some (2, false, 8, 0, C_X9_automaton)
  | 119 => some (3, false, 8, 0, C_X9_requireTransition)
  | 164 => some (2, false, 0, 0, C_X0_allowed)
  | 167 => some (1, true, 0, 0, C_X7_countAllowed)
  | _ => none
theorem bX9_satisfyingValuations_0 : bX9_satisfyingValuations 0 = [(.aload_n 0, 1), (.iload_n 1, 1), (.iload_n 2, 1), (.invokevirtual 119, 3), (.aload_n 0, 1), (.iload_n 1, 1), (.invokevirtual 104, 3), (.iload_n 2, 1), (.invokevirtual 164, 3), (.invokestatic 167, 3), (.ireturn, 1)] := rfl
theorem uX9_satisfyingValuations_0 : uX9_satisfyingValuations 0 = none := rfl
theorem aX9_satisfyingValuations_104 : aX9_satisfyingValuations 104 = some (2, false, 8, 0, C_X9_automaton) := rfl
theorem aX9_satisfyingValuations_119 : aX9_satisfyingValuations 119 = some (3, false, 8, 0, C_X9_requireTransition) := rfl
theorem aX9_satisfyingValuations_164 : aX9_satisfyingValuations 164 = some (2, false, 0, 0, C_X0_allowed) := rfl
theorem aX9_satisfyingValuations_167 : aX9_satisfyingValuations 167 = some (1, true, 0, 0, C_X7_countAllowed) := rfl
def mX9_satisfyingValuations : Room := { frames := 8, cells := 1, slots := 6, locals := 124 }
set_option maxRecDepth 100000 in
set_option maxHeartbeats 4000000 in
theorem okX9_satisfyingValuations : pvOkM fX9 aX9_satisfyingValuations kX9 eX9 (some .int) bX9_satisfyingValuations uX9_satisfyingValuations 3 C_X9_satisfyingValuations := by
  intro Q SW hc as z h hS hz
  unfold C_X9_satisfyingValuations at h
  split at h
  · rename_i id s t
    obtain ⟨rfl, hw, h1, h2⟩ := h
    refine ⟨Nat.le_of_ble_eq_true rfl, hc 20 _ _ _ fun _ _ => ?_⟩
    clear hc hS hz
    simp only [pvSt1]
    simp only [C_X9_requireTransition, C_X9_automaton, C_X0_allowed, C_X7_countAllowed, pvE_aload_n0, pvLA_s, pvLd, pvE_iload_n1, pvLI_s, pvE_iload_n2, pvE_invokevirtual, pvC1_s, pvC2_s, pvAf_v, pvAf_x, pvPop, pvCs, pvCat, pvPush, aX9_satisfyingValuations_119, pvSh_0, pvSh_1, pvSh_2, pvSh_3, pvSh_4, pvSh_5, pvSh_6, pvSh_7, pvSh_8, pvSh_9, pvSh_10, pvSh_11, pvSh_12, pvSh_13, pvSh_14, pvSh_15, pvSh_16, pvSh_17, pvSh_18, pvSh_19, pvSh_20, pvSh_21, pvSh_22, pvSh_23, pvSh_24, pvSh_25, pvSh_26, pvSh_27, pvSh_28, pvSh_29, pvSh_30, pvSh_31, pvSh_32, pvSh_33, pvSh_34, pvSh_35, pvSh_36, pvSh_37, pvSh_38, pvSh_39, pvSh_40, pvSh_41, pvSh_42, pvSh_43, pvSh_44, pvSh_45, pvSh_46, pvSh_47, pvSh_48, pvSh_49, pvSh_50, pvSh_51, pvSh_52, pvSh_53, pvSh_54, pvSh_55, pvSh_56, pvSh_57, pvSh_58, pvSh_59, aX9_satisfyingValuations_104, aX9_satisfyingValuations_164, pvE_invokestatic (h0 := eX9_167), aX9_satisfyingValuations_167, pvE_ireturn, bX9_satisfyingValuations_0, uX9_satisfyingValuations_0, pvRecv_r, pvUp_nl, pvUp_same, pvUp_ap, pvSt_ap, pvX_c, pvX_ms, pvX_mn, pvE_nil, pvEn_i, pvEn_r, pvEn_l, pvEn_0, pvEn_s, pvRt, pvRv, pvTh, pvKc, pvGo, pvTgt, Int.toNat_natCast, false_and, and_false, true_and, and_true, if_true, if_false, reduceIte, reduceCtorEq, forall_const, false_or, or_false, true_or, or_true, ne_eq, not_true_eq_false, not_false_eq_true, implies_true, false_implies, Nat.reduceAdd, Nat.reduceSub, Nat.reduceMul, Nat.reduceEqDiff, Nat.reduceLT, Nat.reduceLeDiff, Int.reduceAdd, Int.reduceSub, Int.reduceMul, Int.reduceNeg, Int.reduceToNat, Int.reduceLE, Int.reduceLT, Int.reduceEq, Int.reduceNe, and_self]
    by_cases hv : trC z s t
    · have hw2 := hw hv.1
      have hn := hw2.1.1
      have h3 := h1 hv
      have hv2 := hv.2
      rcases (show s = 0 ∨ s = 1 by have := hv.1; omega) with rfl | rfl
      · have e : rwC 0 = 2 := rfl
        rw [e] at h3 hv2 hn hw2
        obtain ⟨a1, a2⟩ := aC_sv hw2 (t := t.toNat) (show ((t.toNat : Nat) : Int) < z.1 2 0 by have : t < z.1 2 0 := hv2.2; omega)
        rw [← a2] at h3
        (repeat' first | with_reducible apply And.intro | with_reducible intro _) <;> first | omega | assumption | contradiction
      · have e : rwC 1 = 4 := rfl
        rw [e] at h3 hv2 hn hw2
        obtain ⟨a1, a2⟩ := aC_sv hw2 (t := t.toNat) (show ((t.toNat : Nat) : Int) < z.1 4 0 by have : t < z.1 4 0 := hv2.2; omega)
        rw [← a2] at h3
        (repeat' first | with_reducible apply And.intro | with_reducible intro _) <;> first | omega | assumption | contradiction
    · have h3 := h2 hv
      (repeat' first | with_reducible apply And.intro | with_reducible intro _) <;> first | omega | assumption | contradiction
  · exact h.elim
def bX9_firstRun : Nat → List (Instr × Nat)
  | 0 => [(.iload_n 1, 1), (.iconst 2, 1), (.invokestatic 97, 3), (.iload_n 2, 1), (.aload_n 0, 1), (.getfield 42, 3), (.getfield 172, 3), (.invokestatic 97, 3), (.aload_n 0, 1), (.getfield 49, 3), (.aload_n 0, 1), (.iload_n 1, 1), (.invokevirtual 104, 3), (.aload_n 0, 1), (.getfield 42, 3), (.iload_n 2, 1), (.invokevirtual 200, 3), (.istore_n 3, 1), (.iload_n 3, 1), (.iconst (-1), 1), (.if_icmp .eq 7, 3), (.iconst 1, 1), (.goto 4, 3)]
  | 43 => [(.iconst 0, 1)]
  | 44 => [(.invokestatic 204, 3), (.iload_n 3, 1), (.ireturn, 1)]
  | _ => []
def uX9_firstRun : Nat → Option (List Bool)
  | _ => none
def aX9_firstRun : pvCa
  | 97 => some (2, true, 0, 0, C_X9_requireIndex)
  | 104 => some (2, false, 8, 0, C_X9_automaton)
  | 200 => some (4, false, 4, 0, C_X4_first)
  | 204 => some (1, true, 0, 0, C_X9_requireElement)
  | _ => none
theorem bX9_firstRun_0 : bX9_firstRun 0 = [(.iload_n 1, 1), (.iconst 2, 1), (.invokestatic 97, 3), (.iload_n 2, 1), (.aload_n 0, 1), (.getfield 42, 3), (.getfield 172, 3), (.invokestatic 97, 3), (.aload_n 0, 1), (.getfield 49, 3), (.aload_n 0, 1), (.iload_n 1, 1), (.invokevirtual 104, 3), (.aload_n 0, 1), (.getfield 42, 3), (.iload_n 2, 1), (.invokevirtual 200, 3), (.istore_n 3, 1), (.iload_n 3, 1), (.iconst (-1), 1), (.if_icmp .eq 7, 3), (.iconst 1, 1), (.goto 4, 3)] := rfl
theorem uX9_firstRun_0 : uX9_firstRun 0 = none := rfl
theorem bX9_firstRun_43 : bX9_firstRun 43 = [(.iconst 0, 1)] := rfl
theorem uX9_firstRun_43 : uX9_firstRun 43 = none := rfl
theorem bX9_firstRun_44 : bX9_firstRun 44 = [(.invokestatic 204, 3), (.iload_n 3, 1), (.ireturn, 1)] := rfl
theorem uX9_firstRun_44 : uX9_firstRun 44 = none := rfl
theorem aX9_firstRun_97 : aX9_firstRun 97 = some (2, true, 0, 0, C_X9_requireIndex) := rfl
theorem aX9_firstRun_104 : aX9_firstRun 104 = some (2, false, 8, 0, C_X9_automaton) := rfl
theorem aX9_firstRun_200 : aX9_firstRun 200 = some (4, false, 4, 0, C_X4_first) := rfl
theorem aX9_firstRun_204 : aX9_firstRun 204 = some (1, true, 0, 0, C_X9_requireElement) := rfl
def mX9_firstRun : Room := { frames := 7, cells := 1, slots := 6, locals := 164 }
set_option maxRecDepth 100000 in
set_option maxHeartbeats 4000000 in
theorem okX9_firstRun : pvOkM fX9 aX9_firstRun kX9 eX9 (some .int) bX9_firstRun uX9_firstRun 4 C_X9_firstRun := by
  intro Q SW hc as z h hS hz
  unfold C_X9_firstRun at h
  split at h
  · rename_i id s i
    obtain ⟨rfl, ⟨hw, hwc⟩, h1, h2⟩ := h
    refine ⟨Nat.le_of_ble_eq_true rfl, hc 20 _ _ _ fun _ _ => ?_⟩
    clear hc hS hz
    simp only [pvSt1]
    simp only [C_X9_requireIndex, C_X9_requireElement, C_X9_automaton, C_X4_first, pvE_iload_n1, pvLI_s, pvLd, pvE_iconst, pvE_invokestatic (h0 := eX9_97), pvC1_s, pvC2_s, pvAf_v, pvAf_x, pvPop, pvCs, pvCat, pvPush, aX9_firstRun_97, pvE_iload_n2, pvE_aload_n0, pvLA_s, pvE_getfield, pvGf_0, pvGf_1, pvGf_2, fX9_42, pvSh_0, pvSh_1, pvSh_2, pvSh_3, pvSh_4, pvSh_5, pvSh_6, pvSh_7, pvSh_8, pvSh_9, pvSh_10, pvSh_11, pvSh_12, pvSh_13, pvSh_14, pvSh_15, pvSh_16, pvSh_17, pvSh_18, pvSh_19, pvSh_20, pvSh_21, pvSh_22, pvSh_23, pvSh_24, pvSh_25, pvSh_26, pvSh_27, pvSh_28, pvSh_29, pvSh_30, pvSh_31, pvSh_32, pvSh_33, pvSh_34, pvSh_35, pvSh_36, pvSh_37, pvSh_38, pvSh_39, pvSh_40, pvSh_41, pvSh_42, pvSh_43, pvSh_44, pvSh_45, pvSh_46, pvSh_47, pvSh_48, pvSh_49, pvSh_50, pvSh_51, pvSh_52, pvSh_53, pvSh_54, pvSh_55, pvSh_56, pvSh_57, pvSh_58, pvSh_59, pvRf_0_0, pvRf_0_1, pvRf_0_2, pvRf_0_3, pvRf_0_4, pvRf_0_5, pvRf_0_6, pvRf_0_7, pvRf_0_8, pvRf_0_9, pvRf_0_10, pvRf_1_0, pvRf_3_0, pvRf_5_0, pvRf_5_1, pvRf_5_2, pvRf_9_0, pvRf_9_1, pvRf_9_2, pvRf_13_0, pvRf_13_1, pvRf_13_2, pvRf_17_0, pvRf_17_2, pvRf_20_0, pvRf_20_1, pvRf_20_2, pvRf_24_0, pvRf_24_1, pvRf_24_2, pvRf_28_0, pvRf_28_1, pvRf_28_2, pvRf_28_3, pvRf_33_0, pvRf_33_1, pvRf_36_0, pvRf_36_1, pvRf_39_0, pvRf_39_1, pvRf_39_2, pvRf_39_5, pvRf_39_6, pvRf_39_9, pvRf_39_13, pvRf_39_15, pvRf_39_16, pvRf_39_17, pvRf_39_19, pvRf_39_20, pvRf_39_22, pvRf_39_23, pvRf_39_24, pvRf_39_25, pvRf_39_29, pvRf_39_30, fX9_172, fX9_49, pvE_invokevirtual, aX9_firstRun_104, aX9_firstRun_200, pvE_istore_n3, pvS1, List.length_cons, List.length_nil, pvClr_i, pvClr_r, pvClr_l, pvClr_d, pvClr_f, pvClr_n, pvE_iload_n3, pvE_icmp_eq, pvE_goto, pvE_invokestatic (h0 := eX9_204), aX9_firstRun_204, pvE_ireturn, bX9_firstRun_0, uX9_firstRun_0, bX9_firstRun_43, uX9_firstRun_43, bX9_firstRun_44, uX9_firstRun_44, pvRecv_r, pvUp_nl, pvUp_same, pvUp_ap, pvSt_ap, pvX_c, pvX_ms, pvX_mn, pvE_nil, pvEn_i, pvEn_r, pvEn_l, pvEn_0, pvEn_s, pvRt, pvRv, pvTh, pvKc, pvGo, pvTgt, Int.toNat_natCast, false_and, and_false, true_and, and_true, if_true, if_false, reduceIte, reduceCtorEq, forall_const, false_or, or_false, true_or, or_true, ne_eq, not_true_eq_false, not_false_eq_true, implies_true, false_implies, Nat.reduceAdd, Nat.reduceSub, Nat.reduceMul, Nat.reduceEqDiff, Nat.reduceLT, Nat.reduceLeDiff, Int.reduceAdd, Int.reduceSub, Int.reduceMul, Int.reduceNeg, Int.reduceToNat, Int.reduceLE, Int.reduceLT, Int.reduceEq, Int.reduceNe, and_self]
    by_cases hs : (0 ≤ s ∧ s ≤ 1) ∧ 0 ≤ i ∧ i < z.1 20 4
    · have hw2 := hw hs.1
      have h3 := h2 hs
      obtain ⟨hs1, hi⟩ := hs
      have hge := fun h0 => frK_t hw2.1 (z.1 21) (z.1 22) (z.1 20 4).toNat h0 i.toNat (by omega)
      rcases (show s = 0 ∨ s = 1 by omega) with rfl | rfl
      · have e : rwC 0 = 2 := rfl
        rw [e] at h3 hw2 hge
        (repeat' first | with_reducible apply And.intro | with_reducible intro _)
        all_goals first
          | omega
          | assumption
          | (have := hge (by assumption); omega)
          | (rename frF [27] [] _ _ => f1; exact (h3 _ f1).1 (by assumption))
          | (rename frF [27] [] _ _ => f1; exact (h3 _ f1).2 (by assumption))
      · have e : rwC 1 = 4 := rfl
        rw [e] at h3 hw2 hge
        (repeat' first | with_reducible apply And.intro | with_reducible intro _)
        all_goals first
          | omega
          | assumption
          | (have := hge (by assumption); omega)
          | (rename frF [27] [] _ _ => f1; exact (h3 _ f1).1 (by assumption))
          | (rename frF [27] [] _ _ => f1; exact (h3 _ f1).2 (by assumption))
    · have h4 := h1 hs
      (repeat' first | with_reducible apply And.intro | with_reducible intro _) <;> first | omega | assumption
  · exact h.elim
