/-! the class's automaton: what two transitions let through -/
theorem pcK_pos (n k : Nat) : 0 < pcK n k ↔ ∃ j, j < k ∧ n.testBit j = true := by
  induction k with
  | zero => exact ⟨fun h => absurd h (Nat.lt_irrefl 0), fun ⟨j, h, _⟩ => absurd h (Nat.not_lt_zero j)⟩
  | succ k ih =>
    simp only [pcK]
    constructor
    · intro h
      by_cases e : n.testBit k = true
      · exact ⟨k, Nat.lt_succ_self k, e⟩
      · rw [if_neg e, Nat.add_zero] at h
        obtain ⟨j, h1, h2⟩ := ih.mp h
        exact ⟨j, by omega, h2⟩
    · rintro ⟨j, h1, h2⟩
      by_cases e : j = k
      · rw [e] at h2; rw [if_pos h2]; omega
      · have := ih.mpr ⟨j, by omega, h2⟩; omega
theorem pc63 {n : Nat} (h : n ≤ 2147483647) : 0 < pcF (pvAnd (n : Int) 63) ↔ ∃ j, j < 6 ∧ n.testBit j = true := by
  have b := pvAnd_n (x := n) (y := 63) h (by decide)
  have e : pvAnd (n : Int) 63 = ((n &&& 63 : Nat) : Int) := b
  rw [e]
  unfold pcF
  rw [Int.toNat_natCast]
  have q := pcK_pos (n &&& 63) 16
  have t : ∀ j, (n &&& 63).testBit j = (n.testBit j && decide (j < 6)) := fun j => by
    rw [Nat.testBit_and, show (63 : Nat) = 2 ^ 6 - 1 from rfl, Nat.testBit_two_pow_sub_one]
  constructor
  · intro h
    obtain ⟨j, _, h2⟩ := q.mp (by omega)
    rw [t, Bool.and_eq_true, decide_eq_true_eq] at h2
    exact ⟨j, h2.2, h2.1⟩
  · rintro ⟨j, h1, h2⟩
    have := q.mpr ⟨j, by omega, by rw [t, h2]; simpa using h1⟩
    omega
theorem mul_pos3 {a b c : Int} (ha : 0 ≤ a) (hb : 0 ≤ b) (hc : 0 ≤ c) : 0 < a * b * c ↔ 0 < a ∧ 0 < b ∧ 0 < c := by
  constructor
  · intro h
    refine ⟨?_, ?_, ?_⟩
    · rcases Int.lt_or_eq_of_le ha with e | e
      · exact e
      · rw [← e, Int.zero_mul, Int.zero_mul] at h; omega
    · rcases Int.lt_or_eq_of_le hb with e | e
      · exact e
      · rw [← e, Int.mul_zero, Int.zero_mul] at h; omega
    · rcases Int.lt_or_eq_of_le hc with e | e
      · exact e
      · rw [← e, Int.mul_zero] at h; omega
  · rintro ⟨h1, h2, h3⟩
    exact Int.mul_pos (Int.mul_pos h1 h2) h3
theorem cn_pos {a : Int} (h : 0 ≤ a ∧ a < 262144) : 0 < cnF a ↔ ∃ v : Nat, v < 216 ∧ alF a v = true := by
  obtain ⟨n, rfl⟩ : ∃ n : Nat, a = n := ⟨a.toNat, by omega⟩
  unfold cnF
  rw [mul_pos3 (pcF_r _).1 (pcF_r _).1 (pcF_r _).1]
  have e6 := pvShr_n (a := (n : Int)) (k := 6) (by omega) (by omega) (by omega) (by omega)
  have e12 := pvShr_n (a := (n : Int)) (k := 12) (by omega) (by omega) (by omega) (by omega)
  have s6 := shr_le n 6
  have s12 := shr_le n 12
  have t6 : (6 : Int).toNat = 6 := rfl
  have t12 : (12 : Int).toNat = 12 := rfl
  rw [Int.toNat_natCast, t6] at e6
  rw [Int.toNat_natCast, t12] at e12
  rw [e6, e12, pc63 (n := n) (by omega), pc63 (n := n >>> 6) (Nat.le_trans s6 (by omega)), pc63 (n := n >>> 12) (Nat.le_trans s12 (by omega))]
  simp only [alF, Int.toNat_natCast, Nat.testBit_shiftRight, Bool.and_eq_true]
  constructor
  · rintro ⟨⟨x, hx, h1⟩, ⟨y, hy, h2⟩, ⟨w, hw, h3⟩⟩
    refine ⟨x + 6 * y + 36 * w, by omega, ⟨?_, ?_⟩, ?_⟩
    · rw [show (((x + 6 * y + 36 * w : Nat) : Int) % 6).toNat = x by omega]; exact h1
    · rw [show 6 + (((x + 6 * y + 36 * w : Nat) : Int) / 6 % 6).toNat = 6 + y by omega]; exact h2
    · rw [show 12 + (((x + 6 * y + 36 * w : Nat) : Int) / 36).toNat = 12 + w by omega]; exact h3
  · rintro ⟨v, hv, ⟨h1, h2⟩, h3⟩
    exact ⟨⟨_, by omega, h1⟩, ⟨_, by omega, h2⟩, ⟨_, by omega, h3⟩⟩
theorem al_and {a b v : Int} (ha : 0 ≤ a ∧ a < 262144) (hb : 0 ≤ b ∧ b < 262144) : alF (pvAnd a b) v = (alF a v && alF b v) := by
  obtain ⟨n, rfl⟩ : ∃ n : Nat, a = n := ⟨a.toNat, by omega⟩
  obtain ⟨m, rfl⟩ : ∃ m : Nat, b = m := ⟨b.toNat, by omega⟩
  rw [pvAnd_n (by omega) (by omega)]
  simp only [alF, Int.toNat_natCast, Nat.testBit_and]
  ac_rfl
theorem cl_iff {f : Nat → Int} (h : WfC f) {t u : Nat} (ht : (t : Int) < f 0) (hu : (u : Int) < f 0) : clF (autC f) t u ↔ cT f t 0 = cT f u 0 ∧ cT f t 1 = cT f u 1 ∧ 0 < cnF (pvAnd (cT f t 16) (cT f u 16)) := by
  have e := autC_T (f := f) (t := t) ht
  have g := autC_T (f := f) (t := u) hu
  obtain ⟨a1, b1⟩ := h.2 t ht
  obtain ⟨a2, b2⟩ := h.2 u hu
  have r : 0 ≤ pvAnd (cT f t 16) (cT f u 16) ∧ pvAnd (cT f t 16) (cT f u 16) < 262144 := by
    rw [pvAnd_nat a1.1 (by omega) a2.1 (by omega)]
    have : (cT f t 16).toNat &&& (cT f u 16).toNat ≤ (cT f t 16).toNat := Nat.and_le_left
    omega
  unfold clF
  rw [e, g, cn_pos r]
  simp only [nrT_s (show 0 < 4 by decide), nrT_s (show 1 < 4 by decide), blF_nr]
  have k : ∀ v : Nat, (v < 216 ∧ alF (pvAnd (cT f t 16) (cT f u 16)) v = true) ↔ (v < 216 ∧ blF (cT f t) v < 0 ∧ blF (cT f u) v < 0) := fun v => by
    rw [al_and a1 a2, Bool.and_eq_true]
    constructor
    · rintro ⟨hv, x, y⟩
      exact ⟨hv, (b1 v hv).mp x, (b2 v hv).mp y⟩
    · rintro ⟨hv, x, y⟩
      exact ⟨hv, (b1 v hv).mpr x, (b2 v hv).mpr y⟩
  simp only [k]
def C_X0_hasConflict : pvC
  | [.inr (.inr (.inl id))], z, Q => (id = 1 ∨ id = 3) ∧ WfC (z.1 (id + 1)) ∧
      ((∃ t u : Nat, (t : Int) < z.1 (id + 1) 0 ∧ u < t ∧ clF (autC (z.1 (id + 1))) t u) → Q (.inl (some (vI 1))) z) ∧
      ((∀ t u : Nat, (t : Int) < z.1 (id + 1) 0 → u < t → ¬ clF (autC (z.1 (id + 1))) t u) → Q (.inl (some (vI 0))) z)
  | _, _, _ => False
def bX0_hasConflict : Nat → List (Instr × Nat)
  | 0 => [(.iconst 0, 1), (.istore_n 1, 1)]
  | 2 => [(.iload_n 1, 1), (.aload_n 0, 1), (.invokevirtual 23, 3), (.if_icmp .ge 69, 3), (.iconst 0, 1), (.istore_n 2, 1)]
  | 12 => [(.iload_n 2, 1), (.iload_n 1, 1), (.if_icmp .ge 56, 3), (.aload_n 0, 1), (.iload_n 1, 1), (.iconst 0, 1), (.invokevirtual 19, 3), (.aload_n 0, 1), (.iload_n 2, 1), (.iconst 0, 1), (.invokevirtual 19, 3), (.if_icmp .ne 35, 3), (.aload_n 0, 1), (.iload_n 1, 1), (.invokevirtual 69, 3), (.aload_n 0, 1), (.iload_n 2, 1), (.invokevirtual 69, 3), (.if_icmp .ne 22, 3), (.aload_n 0, 1), (.iload_n 1, 1), (.invokevirtual 72, 3), (.aload_n 0, 1), (.iload_n 2, 1), (.invokevirtual 72, 3), (.iand, 1), (.invokestatic 102, 3), (.ifCond .le 5, 3), (.iconst 1, 1), (.ireturn, 1)]
  | 64 => [(.iinc 2 1, 3), (.goto (-55), 3)]
  | 70 => [(.iinc 1 1, 3), (.goto (-71), 3)]
  | 76 => [(.iconst 0, 1), (.ireturn, 1)]
  | _ => []
def uX0_hasConflict : Nat → Option (List Bool)
  | 2 => some [true, true, false]
  | 12 => some [true, true, true]
  | _ => none
def aX0_hasConflict : pvCa
  | 19 => some (3, false, 0, 0, C_X0_cell)
  | 23 => some (1, false, 0, 0, C_X0_size)
  | 69 => some (2, false, 0, 0, C_X0_letter)
  | 72 => some (2, false, 0, 0, C_X0_allowed)
  | 102 => some (1, true, 0, 0, C_X7_countAllowed)
  | _ => none
theorem bX0_hasConflict_0 : bX0_hasConflict 0 = [(.iconst 0, 1), (.istore_n 1, 1)] := rfl
theorem uX0_hasConflict_0 : uX0_hasConflict 0 = none := rfl
theorem bX0_hasConflict_2 : bX0_hasConflict 2 = [(.iload_n 1, 1), (.aload_n 0, 1), (.invokevirtual 23, 3), (.if_icmp .ge 69, 3), (.iconst 0, 1), (.istore_n 2, 1)] := rfl
theorem uX0_hasConflict_2 : uX0_hasConflict 2 = some [true, true, false] := rfl
theorem bX0_hasConflict_12 : bX0_hasConflict 12 = [(.iload_n 2, 1), (.iload_n 1, 1), (.if_icmp .ge 56, 3), (.aload_n 0, 1), (.iload_n 1, 1), (.iconst 0, 1), (.invokevirtual 19, 3), (.aload_n 0, 1), (.iload_n 2, 1), (.iconst 0, 1), (.invokevirtual 19, 3), (.if_icmp .ne 35, 3), (.aload_n 0, 1), (.iload_n 1, 1), (.invokevirtual 69, 3), (.aload_n 0, 1), (.iload_n 2, 1), (.invokevirtual 69, 3), (.if_icmp .ne 22, 3), (.aload_n 0, 1), (.iload_n 1, 1), (.invokevirtual 72, 3), (.aload_n 0, 1), (.iload_n 2, 1), (.invokevirtual 72, 3), (.iand, 1), (.invokestatic 102, 3), (.ifCond .le 5, 3), (.iconst 1, 1), (.ireturn, 1)] := rfl
theorem uX0_hasConflict_12 : uX0_hasConflict 12 = some [true, true, true] := rfl
theorem bX0_hasConflict_64 : bX0_hasConflict 64 = [(.iinc 2 1, 3), (.goto (-55), 3)] := rfl
theorem uX0_hasConflict_64 : uX0_hasConflict 64 = none := rfl
theorem bX0_hasConflict_70 : bX0_hasConflict 70 = [(.iinc 1 1, 3), (.goto (-71), 3)] := rfl
theorem uX0_hasConflict_70 : uX0_hasConflict 70 = none := rfl
theorem bX0_hasConflict_76 : bX0_hasConflict 76 = [(.iconst 0, 1), (.ireturn, 1)] := rfl
theorem uX0_hasConflict_76 : uX0_hasConflict 76 = none := rfl
theorem aX0_hasConflict_19 : aX0_hasConflict 19 = some (3, false, 0, 0, C_X0_cell) := rfl
theorem aX0_hasConflict_23 : aX0_hasConflict 23 = some (1, false, 0, 0, C_X0_size) := rfl
theorem aX0_hasConflict_69 : aX0_hasConflict 69 = some (2, false, 0, 0, C_X0_letter) := rfl
theorem aX0_hasConflict_72 : aX0_hasConflict 72 = some (2, false, 0, 0, C_X0_allowed) := rfl
theorem aX0_hasConflict_102 : aX0_hasConflict 102 = some (1, true, 0, 0, C_X7_countAllowed) := rfl
def mX0_hasConflict : Room := { frames := 3, cells := 1, slots := 6, locals := 65 }
set_option maxRecDepth 100000 in
set_option maxHeartbeats 4000000 in
theorem okX0_hasConflict : pvOkM fX0 aX0_hasConflict kX0 eX0 (some .boolean) bX0_hasConflict uX0_hasConflict 3 C_X0_hasConflict := by
  intro Q SW hc as z h hS hz
  unfold C_X0_hasConflict at h
  split at h
  · rename_i id
    obtain ⟨hid, hw, h2, h3⟩ := h
    have hsh : pvSh id = Sum.inl 0 := by rcases hid with rfl | rfl <;> rfl
    have hn : 0 ≤ z.1 (id + 1) 0 ∧ z.1 (id + 1) 0 ≤ 10 := hw.1.1
    have outer : ∀ (m k : Nat), (k : Int) + m = z.1 (id + 1) 0 → (∀ t u : Nat, t < k → u < t → ¬ clF (autC (z.1 (id + 1))) t u) → SW 2 [some (vR id), some (vI (k : Int)), none] z := by
      intro m
      induction m using Nat.strongRecOn with
      | _ m ih =>
        intro k hk hno
        have inner : ∀ (j c : Nat), c + j = k → (k : Int) < z.1 (id + 1) 0 → (∀ u : Nat, u < c → ¬ clF (autC (z.1 (id + 1))) k u) → SW 12 [some (vR id), some (vI (k : Int)), some (vI (c : Int))] z := by
          intro j
          induction j using Nat.strongRecOn with
          | _ j ihj =>
            intro c hcj hkn hnc
            refine hc 20 _ _ _ fun _ _ => ?_
            simp only [pvSt1]
            simp only [C_X0_cell, C_X0_letter, C_X0_allowed, C_X7_countAllowed, pvE_iconst, pvE_istore_n1, pvS1, List.length_cons, List.length_nil, pvClr_i, pvClr_r, pvClr_l, pvClr_d, pvClr_f, pvClr_n, pvE_iload_n1, pvLI_s, pvLd, pvE_aload_n0, pvLA_s, pvE_invokevirtual, pvC1_s, pvC2_s, pvAf_v, pvAf_x, pvPop, pvCs, pvCat, pvPush, aX0_hasConflict_23, pvSh_0, pvSh_1, pvSh_2, pvSh_3, pvSh_4, pvSh_5, pvSh_6, pvSh_7, pvSh_8, pvSh_9, pvSh_10, pvSh_11, pvSh_12, pvSh_13, pvSh_14, pvSh_15, pvSh_16, pvSh_17, pvSh_18, pvSh_19, pvSh_20, pvSh_21, pvSh_22, pvSh_23, pvSh_24, pvSh_25, pvSh_26, pvSh_27, pvSh_28, pvSh_29, pvSh_30, pvSh_31, pvSh_32, pvSh_33, pvSh_34, pvSh_35, pvSh_36, pvSh_37, pvSh_38, pvSh_39, pvSh_40, pvSh_41, pvSh_42, pvSh_43, pvSh_44, pvSh_45, pvSh_46, pvSh_47, pvSh_48, pvSh_49, pvSh_50, pvSh_51, pvSh_52, pvSh_53, pvSh_54, pvSh_55, pvSh_56, pvSh_57, pvSh_58, pvSh_59, pvE_icmp_ge, pvE_istore_n2, pvE_iload_n2, aX0_hasConflict_19, pvE_icmp_ne, aX0_hasConflict_69, aX0_hasConflict_72, pvE_iand, pvE_invokestatic (h0 := eX0_102), aX0_hasConflict_102, pvE_if_le, pvE_ireturn, pvE_iinc, pvIc_s, pvE_goto, bX0_hasConflict_0, uX0_hasConflict_0, bX0_hasConflict_2, uX0_hasConflict_2, bX0_hasConflict_12, uX0_hasConflict_12, bX0_hasConflict_64, uX0_hasConflict_64, bX0_hasConflict_70, uX0_hasConflict_70, bX0_hasConflict_76, uX0_hasConflict_76, pvMk_t, pvMk_f, pvMk_n, pvRecv_r, pvUp_nl, pvUp_same, pvUp_ap, pvSt_ap, pvX_c, pvX_ms, pvX_mn, pvE_nil, pvEn_i, pvEn_r, pvEn_l, pvEn_0, pvEn_s, pvRt, pvRv, pvTh, pvKc, pvGo, pvTgt, Int.toNat_natCast, false_and, and_false, true_and, and_true, if_true, if_false, reduceIte, reduceCtorEq, forall_const, false_or, or_false, true_or, or_true, ne_eq, not_true_eq_false, not_false_eq_true, implies_true, false_implies, Nat.reduceAdd, Nat.reduceSub, Nat.reduceMul, Nat.reduceEqDiff, Nat.reduceLT, Nat.reduceLeDiff, Int.reduceAdd, Int.reduceSub, Int.reduceMul, Int.reduceNeg, Int.reduceToNat, Int.reduceLE, Int.reduceLT, Int.reduceEq, Int.reduceNe, and_self]
            by_cases hx : k ≤ c
            · have q := ih (m - 1) (by omega) (k + 1) (by omega) (fun t u ht hu => by
                by_cases e : t = k
                · subst e; exact hnc u (by omega)
                · exact hno t u (by omega) hu)
              (repeat' (first | with_reducible apply And.intro | intro _))
              all_goals first
                | omega
                | exact q
            · have i := cl_iff hw (t := k) (u := c) hkn (by omega)
              obtain ⟨a1, b1⟩ := hw.2 k hkn
              obtain ⟨a2, b2⟩ := hw.2 c (by omega)
              have r : 0 ≤ pvAnd (cT (z.1 (id + 1)) k 16) (cT (z.1 (id + 1)) c 16) ∧ pvAnd (cT (z.1 (id + 1)) k 16) (cT (z.1 (id + 1)) c 16) < 262144 := by
                rw [pvAnd_nat a1.1 (by omega) a2.1 (by omega)]
                have : (cT (z.1 (id + 1)) k 16).toNat &&& (cT (z.1 (id + 1)) c 16).toNat ≤ (cT (z.1 (id + 1)) k 16).toNat := Nat.and_le_left
                omega
              have q1 : clF (autC (z.1 (id + 1))) k c → Q (.inl (some (vI 1))) z := fun e => h2 ⟨k, c, hkn, by omega, e⟩
              have q2 : ¬ clF (autC (z.1 (id + 1))) k c → SW 12 [some (vR id), some (vI (k : Int)), some (vI ((c : Int) + 1))] z := fun e => ihj (j - 1) (by omega) (c + 1) (by omega) hkn (fun u hu => by
                by_cases g : u = c
                · subst g; exact e
                · exact hnc u (by omega))
              rw [i] at q1 q2
              clear i h2 h3 ih ihj hno hnc
              (repeat' (first | with_reducible apply And.intro | intro _))
              all_goals first
                | omega
                | assumption
                | (apply q2; omega)
                | (apply q1; omega)
        refine hc 20 _ _ _ fun _ _ => ?_
        simp only [pvSt1]
        simp only [C_X0_size, pvE_iconst, pvE_istore_n1, pvS1, List.length_cons, List.length_nil, pvClr_i, pvClr_r, pvClr_l, pvClr_d, pvClr_f, pvClr_n, pvE_iload_n1, pvLI_s, pvLd, pvE_aload_n0, pvLA_s, pvE_invokevirtual, pvC1_s, pvC2_s, pvAf_v, pvAf_x, pvPop, pvCs, pvCat, pvPush, aX0_hasConflict_23, pvSh_0, pvSh_1, pvSh_2, pvSh_3, pvSh_4, pvSh_5, pvSh_6, pvSh_7, pvSh_8, pvSh_9, pvSh_10, pvSh_11, pvSh_12, pvSh_13, pvSh_14, pvSh_15, pvSh_16, pvSh_17, pvSh_18, pvSh_19, pvSh_20, pvSh_21, pvSh_22, pvSh_23, pvSh_24, pvSh_25, pvSh_26, pvSh_27, pvSh_28, pvSh_29, pvSh_30, pvSh_31, pvSh_32, pvSh_33, pvSh_34, pvSh_35, pvSh_36, pvSh_37, pvSh_38, pvSh_39, pvSh_40, pvSh_41, pvSh_42, pvSh_43, pvSh_44, pvSh_45, pvSh_46, pvSh_47, pvSh_48, pvSh_49, pvSh_50, pvSh_51, pvSh_52, pvSh_53, pvSh_54, pvSh_55, pvSh_56, pvSh_57, pvSh_58, pvSh_59, pvE_icmp_ge, pvE_istore_n2, pvE_iload_n2, aX0_hasConflict_19, pvE_icmp_ne, aX0_hasConflict_69, aX0_hasConflict_72, pvE_iand, pvE_invokestatic (h0 := eX0_102), aX0_hasConflict_102, pvE_if_le, pvE_ireturn, pvE_iinc, pvIc_s, pvE_goto, bX0_hasConflict_0, uX0_hasConflict_0, bX0_hasConflict_2, uX0_hasConflict_2, bX0_hasConflict_12, uX0_hasConflict_12, bX0_hasConflict_64, uX0_hasConflict_64, bX0_hasConflict_70, uX0_hasConflict_70, bX0_hasConflict_76, uX0_hasConflict_76, pvMk_t, pvMk_f, pvMk_n, pvRecv_r, pvUp_nl, pvUp_same, pvUp_ap, pvSt_ap, pvX_c, pvX_ms, pvX_mn, pvE_nil, pvEn_i, pvEn_r, pvEn_l, pvEn_0, pvEn_s, pvRt, pvRv, pvTh, pvKc, pvGo, pvTgt, Int.toNat_natCast, false_and, and_false, true_and, and_true, if_true, if_false, reduceIte, reduceCtorEq, forall_const, false_or, or_false, true_or, or_true, ne_eq, not_true_eq_false, not_false_eq_true, implies_true, false_implies, Nat.reduceAdd, Nat.reduceSub, Nat.reduceMul, Nat.reduceEqDiff, Nat.reduceLT, Nat.reduceLeDiff, Int.reduceAdd, Int.reduceSub, Int.reduceMul, Int.reduceNeg, Int.reduceToNat, Int.reduceLE, Int.reduceLT, Int.reduceEq, Int.reduceNe, and_self]
        by_cases hx : z.1 (id + 1) 0 ≤ k
        · have q := h3 (fun t u ht hu => hno t u (by omega) hu)
          (repeat' (first | with_reducible apply And.intro | intro _))
          all_goals first
            | omega
            | assumption
        · have q := inner k 0 (by omega) (by omega) (fun u hu => absurd hu (Nat.not_lt_zero u))
          (repeat' (first | with_reducible apply And.intro | intro _))
          all_goals first
            | omega
            | assumption
    refine ⟨Nat.le_of_ble_eq_true rfl, hc 20 _ _ _ fun _ _ => ?_⟩
    simp only [pvSt1]
    simp only [pvE_iconst, pvE_istore_n1, pvS1, List.length_cons, List.length_nil, pvClr_i, pvClr_r, pvClr_l, pvClr_d, pvClr_f, pvClr_n, pvE_iload_n1, pvLI_s, pvLd, pvE_aload_n0, pvLA_s, pvE_invokevirtual, pvC1_s, pvC2_s, pvAf_v, pvAf_x, pvPop, pvCs, pvCat, pvPush, aX0_hasConflict_23, pvSh_0, pvSh_1, pvSh_2, pvSh_3, pvSh_4, pvSh_5, pvSh_6, pvSh_7, pvSh_8, pvSh_9, pvSh_10, pvSh_11, pvSh_12, pvSh_13, pvSh_14, pvSh_15, pvSh_16, pvSh_17, pvSh_18, pvSh_19, pvSh_20, pvSh_21, pvSh_22, pvSh_23, pvSh_24, pvSh_25, pvSh_26, pvSh_27, pvSh_28, pvSh_29, pvSh_30, pvSh_31, pvSh_32, pvSh_33, pvSh_34, pvSh_35, pvSh_36, pvSh_37, pvSh_38, pvSh_39, pvSh_40, pvSh_41, pvSh_42, pvSh_43, pvSh_44, pvSh_45, pvSh_46, pvSh_47, pvSh_48, pvSh_49, pvSh_50, pvSh_51, pvSh_52, pvSh_53, pvSh_54, pvSh_55, pvSh_56, pvSh_57, pvSh_58, pvSh_59, pvE_icmp_ge, pvE_istore_n2, pvE_iload_n2, aX0_hasConflict_19, pvE_icmp_ne, aX0_hasConflict_69, aX0_hasConflict_72, pvE_iand, pvE_invokestatic (h0 := eX0_102), aX0_hasConflict_102, pvE_if_le, pvE_ireturn, pvE_iinc, pvIc_s, pvE_goto, bX0_hasConflict_0, uX0_hasConflict_0, bX0_hasConflict_2, uX0_hasConflict_2, bX0_hasConflict_12, uX0_hasConflict_12, bX0_hasConflict_64, uX0_hasConflict_64, bX0_hasConflict_70, uX0_hasConflict_70, bX0_hasConflict_76, uX0_hasConflict_76, pvMk_t, pvMk_f, pvMk_n, pvRecv_r, pvUp_nl, pvUp_same, pvUp_ap, pvSt_ap, pvX_c, pvX_ms, pvX_mn, pvE_nil, pvEn_i, pvEn_r, pvEn_l, pvEn_0, pvEn_s, pvRt, pvRv, pvTh, pvKc, pvGo, pvTgt, Int.toNat_natCast, false_and, and_false, true_and, and_true, if_true, if_false, reduceIte, reduceCtorEq, forall_const, false_or, or_false, true_or, or_true, ne_eq, not_true_eq_false, not_false_eq_true, implies_true, false_implies, Nat.reduceAdd, Nat.reduceSub, Nat.reduceMul, Nat.reduceEqDiff, Nat.reduceLT, Nat.reduceLeDiff, Int.reduceAdd, Int.reduceSub, Int.reduceMul, Int.reduceNeg, Int.reduceToNat, Int.reduceLE, Int.reduceLT, Int.reduceEq, Int.reduceNe, and_self]
    have q := outer (z.1 (id + 1) 0).toNat 0 (by omega) (fun t u ht => absurd ht (Nat.not_lt_zero t))
    (repeat' (first | with_reducible apply And.intro | intro _))
    all_goals first
      | omega
      | assumption
  · exact h.elim
