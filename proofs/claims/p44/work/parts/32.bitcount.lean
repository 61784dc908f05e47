/-- how many of the first k bits of n are set -/
def pcK (n : Nat) : Nat → Nat
  | 0 => 0
  | k + 1 => pcK n k + (if n.testBit k then 1 else 0)
def pcF (x : Int) : Int := (pcK x.toNat 16 : Nat)
def bc1 (x : Nat) : Nat := x - (x >>> 1 &&& 1431655765)
def bc2 (x : Nat) : Nat := (x &&& 858993459) + (x >>> 2 &&& 858993459)
def bc3 (x : Nat) : Nat := x + x >>> 4 &&& 252645135
def bc4 (x : Nat) : Nat := x + x >>> 8
def bc5 (x : Nat) : Nat := x + x >>> 16 &&& 63
def bcP (x : Nat) : Nat := bc3 (bc2 (bc1 x))
theorem and256 {a b c d : Nat} (hb : b < 256) (hd : d < 256) : (256 * a + b) &&& (256 * c + d) = 256 * (a &&& c) + (b &&& d) := by
  apply Nat.eq_of_testBit_eq
  intro j
  have h1 := Nat.testBit_two_pow_mul_add a (b_lt := (show b < 2 ^ 8 from hb)) j
  have h2 := Nat.testBit_two_pow_mul_add c (b_lt := (show d < 2 ^ 8 from hd)) j
  have h3 := Nat.testBit_two_pow_mul_add (a &&& c) (b_lt := (show b &&& d < 2 ^ 8 from Nat.and_lt_two_pow b hd)) j
  rw [Nat.testBit_and, show 256 * a + b = 2 ^ 8 * a + b from rfl, show 256 * c + d = 2 ^ 8 * c + d from rfl, show 256 * (a &&& c) + (b &&& d) = 2 ^ 8 * (a &&& c) + (b &&& d) from rfl, h1, h2, h3]
  split
  · rw [Nat.testBit_and]
  · rw [Nat.testBit_and]
theorem bcA : ∀ h : Fin 256, (h.val >>> 1 &&& 5592405) = (h.val >>> 1 &&& 1431655765) ∧ (h.val >>> 1 &&& 1431655765) ≤ h.val ∧ bc1 h.val < 256 := by decide +kernel
theorem bcB : ∀ (p : Fin 2) (l : Fin 256), (128 * p.val + l.val >>> 1 &&& 85) = (l.val >>> 1 &&& 1431655765) := by decide +kernel
theorem bcC : ∀ h : Fin 256, (h.val >>> 2 &&& 3355443) = (h.val >>> 2 &&& 858993459) ∧ (h.val &&& 3355443) = (h.val &&& 858993459) ∧ (h.val &&& 51) = (h.val &&& 858993459) := by decide +kernel
theorem bcC1 : ∀ h : Fin 256, bc2 (bc1 h.val) ≤ 68 ∧ bc2 (bc1 h.val) % 16 ≤ 4 := by decide +kernel
theorem bcD : ∀ (p : Fin 4) (l : Fin 256), (64 * p.val + l.val >>> 2 &&& 51) = (l.val >>> 2 &&& 858993459) := by decide +kernel
theorem bcE : ∀ (p : Fin 16) (l : Fin 69), (16 * p.val + l.val >>> 4 + l.val &&& 15) = bc3 l.val := by decide +kernel
theorem bcG : ∀ h : Fin 69, (h.val + h.val >>> 4 &&& 986895) = bc3 h.val := by decide +kernel
theorem bcP_8 : ∀ h : Fin 256, bcP h.val = pcK h.val 8 ∧ bcP h.val ≤ 8 := by decide +kernel
theorem bcQ : ∀ a b : Fin 9, bc5 (bc4 (256 * a.val + b.val)) = b.val + a.val := by decide +kernel
theorem bc1_256 {h l : Nat} (hh : h < 256) (hl : l < 256) : bc1 (256 * h + l) = 256 * bc1 h + bc1 l := by
  have a := bcA ⟨h, hh⟩
  have b := bcA ⟨l, hl⟩
  have c := bcB ⟨h % 2, by omega⟩ ⟨l, hl⟩
  simp only at a b c
  have e : (256 * h + l) >>> 1 = 256 * (h >>> 1) + (128 * (h % 2) + l >>> 1) := by simp only [Nat.shiftRight_eq_div_pow]; omega
  have g : 128 * (h % 2) + l >>> 1 < 256 := by simp only [Nat.shiftRight_eq_div_pow]; omega
  have m2 : (256 * h + l) >>> 1 &&& 1431655765 = 256 * (h >>> 1 &&& 1431655765) + (l >>> 1 &&& 1431655765) := by
    rw [e, ← a.1, ← c]; exact and256 (c := 5592405) (d := 85) g (by decide)
  unfold bc1
  rw [m2]
  omega
theorem bc2_256 {h l : Nat} (hh : h < 256) (hl : l < 256) : bc2 (256 * h + l) = 256 * bc2 h + bc2 l := by
  have a := bcC ⟨h, hh⟩
  have b := bcC ⟨l, hl⟩
  have c := bcD ⟨h % 4, by omega⟩ ⟨l, hl⟩
  simp only at a b c
  have e : (256 * h + l) >>> 2 = 256 * (h >>> 2) + (64 * (h % 4) + l >>> 2) := by simp only [Nat.shiftRight_eq_div_pow]; omega
  have g : 64 * (h % 4) + l >>> 2 < 256 := by simp only [Nat.shiftRight_eq_div_pow]; omega
  have m1 : (256 * h + l) &&& 858993459 = 256 * (h &&& 858993459) + (l &&& 858993459) := by
    rw [← a.2.1, ← b.2.2]; exact and256 (c := 3355443) (d := 51) hl (by decide)
  have m2 : (256 * h + l) >>> 2 &&& 858993459 = 256 * (h >>> 2 &&& 858993459) + (l >>> 2 &&& 858993459) := by
    rw [e, ← a.1, ← c]; exact and256 (c := 3355443) (d := 51) g (by decide)
  unfold bc2
  rw [m1, m2]
  omega
theorem bc3_256 {h l : Nat} (hh : h ≤ 68 ∧ h % 16 ≤ 4) (hl : l ≤ 68) : bc3 (256 * h + l) = 256 * bc3 h + bc3 l := by
  have a := bcG ⟨h, by omega⟩
  have c := bcE ⟨h % 16, by omega⟩ ⟨l, by omega⟩
  simp only at a c
  have e : (256 * h + l) + (256 * h + l) >>> 4 = 256 * (h + h >>> 4) + (16 * (h % 16) + l >>> 4 + l) := by simp only [Nat.shiftRight_eq_div_pow]; omega
  have g : 16 * (h % 16) + l >>> 4 + l < 256 := by simp only [Nat.shiftRight_eq_div_pow]; omega
  show (256 * h + l) + (256 * h + l) >>> 4 &&& 252645135 = _
  rw [e, ← a, ← c]
  exact and256 (c := 986895) (d := 15) g (by decide)
theorem pcK_le (n : Nat) (k : Nat) : pcK n k ≤ k := by
  induction k with
  | zero => exact Nat.le_refl _
  | succ k ih => simp only [pcK]; split <;> omega
theorem pcK_256 {h l : Nat} (hl : l < 256) : pcK (256 * h + l) 16 = pcK l 8 + pcK h 8 := by
  have q := fun j => Nat.testBit_two_pow_mul_add h (b_lt := (show l < 2 ^ 8 from hl)) j
  have e : ∀ j, (256 * h + l).testBit j = if j < 8 then l.testBit j else h.testBit (j - 8) := q
  simp only [pcK, e, Nat.reduceLT, Nat.reduceSub, if_true, if_false]
  omega
theorem bc_eq {x : Nat} (h : x < 65536) : bc5 (bc4 (bc3 (bc2 (bc1 x)))) = pcK x 16 := by
  obtain ⟨a, b, ha, hb, rfl⟩ : ∃ a b, a < 256 ∧ b < 256 ∧ x = 256 * a + b := ⟨x / 256, x % 256, by omega, by omega, by omega⟩
  have pa := bcP_8 ⟨a, ha⟩
  have pb := bcP_8 ⟨b, hb⟩
  have qa := bcC1 ⟨a, ha⟩
  have qb := bcC1 ⟨b, hb⟩
  have ra := bcA ⟨a, ha⟩
  have rb := bcA ⟨b, hb⟩
  simp only [bcP] at pa pb qa qb ra rb
  rw [bc1_256 ha hb, bc2_256 ra.2.2 rb.2.2, bc3_256 qa qb.1, pcK_256 hb, ← pa.1, ← pb.1]
  exact bcQ ⟨_, Nat.lt_succ_of_le pa.2⟩ ⟨_, Nat.lt_succ_of_le pb.2⟩
theorem pvUshr_n {a : Nat} {k : Int} (ha : a ≤ 2147483647) (hk : 0 ≤ k) (hk1 : k ≤ 31) : pvUshr (a : Int) k = ((a >>> k.toNat : Nat) : Int) := by
  have e : ((Int32.ofInt (a : Int)).toUInt32 >>> ((Int32.ofInt k).toUInt32 &&& Int32.toUInt32 31)).toInt32.toBitVec.toNat = a >>> k.toNat := by
    show ((Int32.ofInt (a : Int)).toUInt32 >>> (Int32.ofInt k &&& 31).toUInt32).toNat = _
    rw [UInt32.toNat_shiftRight]
    show (Int32.ofInt (a : Int)).toBitVec.toNat >>> ((Int32.ofInt k &&& 31).toBitVec.toNat % 32) = _
    rw [pvT_nat (by omega) (by omega), pv_sh31 hk hk1, Nat.mod_eq_of_lt (by omega), Int.toNat_natCast]
  unfold pvUshr
  have := shr_le a k.toNat
  rw [pvT_int (by rw [e]; omega), e]
theorem w1 {x : Nat} (h : x ≤ 2147483647) : (x : Int) - pvAnd (pvUshr (x : Int) 1) 1431655765 = ((bc1 x : Nat) : Int) := by
  have a := shr_le x 1
  rw [pvUshr_n h (by decide) (by decide)]
  have b := pvAnd_n (x := x >>> 1) (y := 1431655765) (by omega) (by decide)
  have c : x >>> 1 &&& 1431655765 ≤ x >>> 1 := Nat.and_le_left
  show (x : Int) - pvAnd ((x >>> 1 : Nat) : Int) ((1431655765 : Nat) : Int) = _
  rw [b]
  unfold bc1
  omega
theorem w2 {x : Nat} (h : x ≤ 2147483647) : pvAnd (x : Int) 858993459 + pvAnd (pvUshr (x : Int) 2) 858993459 = ((bc2 x : Nat) : Int) := by
  have a := shr_le x 2
  rw [pvUshr_n h (by decide) (by decide)]
  have b := pvAnd_n (x := x >>> 2) (y := 858993459) (by omega) (by decide)
  have c := pvAnd_n (x := x) (y := 858993459) (by omega) (by decide)
  show pvAnd (x : Int) ((858993459 : Nat) : Int) + pvAnd ((x >>> 2 : Nat) : Int) ((858993459 : Nat) : Int) = _
  rw [b, c]
  unfold bc2
  omega
theorem w3 {x : Nat} (h : x ≤ 1073741823) : (x : Int) + pvUshr (x : Int) 4 = ((x + x >>> 4 : Nat) : Int) ∧ pvAnd ((x + x >>> 4 : Nat) : Int) 252645135 = ((bc3 x : Nat) : Int) := by
  have a := shr_le x 4
  refine ⟨?_, pvAnd_n (x := x + x >>> 4) (y := 252645135) (by omega) (by decide)⟩
  rw [pvUshr_n (by omega) (by decide) (by decide)]
  show (x : Int) + ((x >>> 4 : Nat) : Int) = _
  omega
theorem w4 {x : Nat} (h : x ≤ 1073741823) : (x : Int) + pvUshr (x : Int) 8 = ((bc4 x : Nat) : Int) := by
  rw [pvUshr_n (by omega) (by decide) (by decide)]
  unfold bc4
  show (x : Int) + ((x >>> 8 : Nat) : Int) = _
  omega
theorem w5 {x : Nat} (h : x ≤ 1073741823) : (x : Int) + pvUshr (x : Int) 16 = ((x + x >>> 16 : Nat) : Int) ∧ pvAnd ((x + x >>> 16 : Nat) : Int) 63 = ((bc5 x : Nat) : Int) := by
  have a := shr_le x 16
  refine ⟨?_, pvAnd_n (x := x + x >>> 16) (y := 63) (by omega) (by decide)⟩
  rw [pvUshr_n (by omega) (by decide) (by decide)]
  show (x : Int) + ((x >>> 16 : Nat) : Int) = _
  omega
def C_J6_bitCount_0f7a4 : pvC
  | [.inl x], z, Q => (0 ≤ x ∧ x ≤ 65535) ∧ Q (.inl (some (vI (pcF x)))) z
  | _, _, _ => False
def bJ6_bitCount_0f7a4 : Nat → List (Instr × Nat)
  | 0 => [(.iload_n 0, 1), (.iload_n 0, 1), (.iconst 1, 1), (.iushr, 1), (.ldc_w 265, 3), (.iand, 1), (.isub, 1), (.istore_n 0, 1), (.iload_n 0, 1), (.ldc_w 266, 3), (.iand, 1), (.iload_n 0, 1), (.iconst 2, 1), (.iushr, 1), (.ldc_w 266, 3), (.iand, 1), (.iadd, 1), (.istore_n 0, 1), (.iload_n 0, 1), (.iload_n 0, 1), (.iconst 4, 1), (.iushr, 1), (.iadd, 1), (.ldc_w 267, 3), (.iand, 1), (.istore_n 0, 1), (.iload_n 0, 1), (.iload_n 0, 1), (.bipush 8, 2), (.iushr, 1), (.iadd, 1), (.istore_n 0, 1), (.iload_n 0, 1), (.iload_n 0, 1), (.bipush 16, 2), (.iushr, 1), (.iadd, 1), (.istore_n 0, 1), (.iload_n 0, 1), (.bipush 63, 2), (.iand, 1), (.ireturn, 1)]
  | _ => []
def uJ6_bitCount_0f7a4 : Nat → Option (List Bool)
  | _ => none
def aJ6_bitCount_0f7a4 : pvCa
  | _ => none
theorem bJ6_bitCount_0f7a4_0 : bJ6_bitCount_0f7a4 0 = [(.iload_n 0, 1), (.iload_n 0, 1), (.iconst 1, 1), (.iushr, 1), (.ldc_w 265, 3), (.iand, 1), (.isub, 1), (.istore_n 0, 1), (.iload_n 0, 1), (.ldc_w 266, 3), (.iand, 1), (.iload_n 0, 1), (.iconst 2, 1), (.iushr, 1), (.ldc_w 266, 3), (.iand, 1), (.iadd, 1), (.istore_n 0, 1), (.iload_n 0, 1), (.iload_n 0, 1), (.iconst 4, 1), (.iushr, 1), (.iadd, 1), (.ldc_w 267, 3), (.iand, 1), (.istore_n 0, 1), (.iload_n 0, 1), (.iload_n 0, 1), (.bipush 8, 2), (.iushr, 1), (.iadd, 1), (.istore_n 0, 1), (.iload_n 0, 1), (.iload_n 0, 1), (.bipush 16, 2), (.iushr, 1), (.iadd, 1), (.istore_n 0, 1), (.iload_n 0, 1), (.bipush 63, 2), (.iand, 1), (.ireturn, 1)] := rfl
theorem uJ6_bitCount_0f7a4_0 : uJ6_bitCount_0f7a4 0 = none := rfl
set_option maxRecDepth 100000 in
set_option maxHeartbeats 4000000 in
theorem okJ6_bitCount_0f7a4 : pvOkM fJ6 aJ6_bitCount_0f7a4 kJ6 eJ6 (some .int) bJ6_bitCount_0f7a4 uJ6_bitCount_0f7a4 1 C_J6_bitCount_0f7a4 := by
  intro Q SW hc as z h hS hz
  unfold C_J6_bitCount_0f7a4 at h
  split at h
  · rename_i x
    obtain ⟨h1, h2⟩ := h
    obtain ⟨x, rfl⟩ : ∃ n : Nat, x = n := ⟨x.toNat, by omega⟩
    have b1 : bc1 x ≤ x := Nat.sub_le _ _
    have b2 : bc2 (bc1 x) ≤ bc1 x + bc1 x := Nat.add_le_add Nat.and_le_left (Nat.le_trans Nat.and_le_left (shr_le _ _))
    have b3 : bc3 (bc2 (bc1 x)) ≤ 252645135 := Nat.and_le_right
    have s3 := shr_le (bc2 (bc1 x)) 4
    have s4 := shr_le (bc3 (bc2 (bc1 x))) 8
    have b4 : bc4 (bc3 (bc2 (bc1 x))) ≤ 505290270 := by unfold bc4; omega
    have s5 := shr_le (bc4 (bc3 (bc2 (bc1 x)))) 16
    refine ⟨Nat.le_of_ble_eq_true rfl, hc 20 _ _ _ fun _ _ => ?_⟩
    clear hc hS
    simp only [pvSt1]
    simp only [pvE_iload_n0, pvLI_s, pvLd, pvE_iconst, pvE_iushr, pvE_ldc_w (h0 := kJ6_265), pvE_iand, pvE_isub, pvE_istore_n0, pvS1, List.length_cons, List.length_nil, pvClr_i, pvClr_r, pvClr_l, pvClr_d, pvClr_f, pvClr_n, pvE_ldc_w (h0 := kJ6_266), pvE_iadd, pvE_ldc_w (h0 := kJ6_267), pvE_bipush, pvE_ireturn, bJ6_bitCount_0f7a4_0, uJ6_bitCount_0f7a4_0, pvRtG, pvRecv_r, pvUp_nl, pvUp_same, pvUp_ap, pvSt_ap, pvX_c, pvX_ms, pvX_mn, pvE_nil, pvEn_i, pvEn_r, pvEn_l, pvEn_0, pvEn_s, pvRt, pvRv, pvTh, pvKc, pvGo, pvTgt, Int.toNat_natCast, false_and, and_false, true_and, and_true, if_true, if_false, reduceIte, reduceCtorEq, forall_const, false_or, or_false, true_or, or_true, ne_eq, not_true_eq_false, not_false_eq_true, implies_true, false_implies, Nat.reduceAdd, Nat.reduceSub, Nat.reduceMul, Nat.reduceEqDiff, Nat.reduceLT, Nat.reduceLeDiff, Int.reduceAdd, Int.reduceSub, Int.reduceMul, Int.reduceNeg, Int.reduceToNat, Int.reduceLE, Int.reduceLT, Int.reduceEq, Int.reduceNe, and_self]
    simp only [w1 (x := x) (by omega), w2 (x := bc1 x) (by omega), (w3 (x := bc2 (bc1 x)) (by omega)).1, (w3 (x := bc2 (bc1 x)) (by omega)).2, w4 (x := bc3 (bc2 (bc1 x))) (by omega), (w5 (x := bc4 (bc3 (bc2 (bc1 x)))) (by omega)).1, (w5 (x := bc4 (bc3 (bc2 (bc1 x)))) (by omega)).2, bc_eq (x := x) (by omega)]
    unfold pcF at h2
    rw [Int.toNat_natCast] at h2
    simp only [pvR]
    and_intros
    all_goals first
      | omega
      | assumption
  · exact h.elim
def C_J9_min_7cf53 : pvC
  | [.inl a, .inl b], z, Q => Q (.inl (some (vI (if a ≤ b then a else b)))) z
  | _, _, _ => False
def bJ9_min_7cf53 : Nat → List (Instr × Nat)
  | 0 => [(.iload_n 0, 1), (.iload_n 1, 1), (.if_icmp .gt 7, 3), (.iload_n 0, 1), (.goto 4, 3)]
  | 9 => [(.iload_n 1, 1)]
  | 10 => [(.ireturn, 1)]
  | _ => []
def uJ9_min_7cf53 : Nat → Option (List Bool)
  | _ => none
def aJ9_min_7cf53 : pvCa
  | _ => none
theorem bJ9_min_7cf53_0 : bJ9_min_7cf53 0 = [(.iload_n 0, 1), (.iload_n 1, 1), (.if_icmp .gt 7, 3), (.iload_n 0, 1), (.goto 4, 3)] := rfl
theorem uJ9_min_7cf53_0 : uJ9_min_7cf53 0 = none := rfl
theorem bJ9_min_7cf53_9 : bJ9_min_7cf53 9 = [(.iload_n 1, 1)] := rfl
theorem uJ9_min_7cf53_9 : uJ9_min_7cf53 9 = none := rfl
theorem bJ9_min_7cf53_10 : bJ9_min_7cf53 10 = [(.ireturn, 1)] := rfl
theorem uJ9_min_7cf53_10 : uJ9_min_7cf53 10 = none := rfl
set_option maxRecDepth 100000 in
set_option maxHeartbeats 4000000 in
theorem okJ9_min_7cf53 : pvOkM fJ9 aJ9_min_7cf53 kJ9 eJ9 (some .int) bJ9_min_7cf53 uJ9_min_7cf53 2 C_J9_min_7cf53 := by
  intro Q SW hc as z h hS hz
  unfold C_J9_min_7cf53 at h
  split at h
  · rename_i a b
    refine ⟨Nat.le_of_ble_eq_true rfl, hc 20 _ _ _ fun _ _ => ?_⟩
    clear hc hS
    simp only [pvSt1]
    simp only [pvE_iload_n0, pvLI_s, pvLd, pvE_iload_n1, pvE_icmp_gt, pvE_goto, pvE_ireturn, bJ9_min_7cf53_0, uJ9_min_7cf53_0, bJ9_min_7cf53_9, uJ9_min_7cf53_9, bJ9_min_7cf53_10, uJ9_min_7cf53_10, pvRtG, pvRecv_r, pvUp_nl, pvUp_same, pvUp_ap, pvSt_ap, pvX_c, pvX_ms, pvX_mn, pvE_nil, pvEn_i, pvEn_r, pvEn_l, pvEn_0, pvEn_s, pvRt, pvRv, pvTh, pvKc, pvGo, pvTgt, Int.toNat_natCast, false_and, and_false, true_and, and_true, if_true, if_false, reduceIte, reduceCtorEq, forall_const, false_or, or_false, true_or, or_true, ne_eq, not_true_eq_false, not_false_eq_true, implies_true, false_implies, Nat.reduceAdd, Nat.reduceSub, Nat.reduceMul, Nat.reduceEqDiff, Nat.reduceLT, Nat.reduceLeDiff, Int.reduceAdd, Int.reduceSub, Int.reduceMul, Int.reduceNeg, Int.reduceToNat, Int.reduceLE, Int.reduceLT, Int.reduceEq, Int.reduceNe, and_self]
    grind
  · exact h.elim
def C_J9_max_7cf53 : pvC
  | [.inl a, .inl b], z, Q => Q (.inl (some (vI (if b ≤ a then a else b)))) z
  | _, _, _ => False
def bJ9_max_7cf53 : Nat → List (Instr × Nat)
  | 0 => [(.iload_n 0, 1), (.iload_n 1, 1), (.if_icmp .lt 7, 3), (.iload_n 0, 1), (.goto 4, 3)]
  | 9 => [(.iload_n 1, 1)]
  | 10 => [(.ireturn, 1)]
  | _ => []
def uJ9_max_7cf53 : Nat → Option (List Bool)
  | _ => none
def aJ9_max_7cf53 : pvCa
  | _ => none
theorem bJ9_max_7cf53_0 : bJ9_max_7cf53 0 = [(.iload_n 0, 1), (.iload_n 1, 1), (.if_icmp .lt 7, 3), (.iload_n 0, 1), (.goto 4, 3)] := rfl
theorem uJ9_max_7cf53_0 : uJ9_max_7cf53 0 = none := rfl
theorem bJ9_max_7cf53_9 : bJ9_max_7cf53 9 = [(.iload_n 1, 1)] := rfl
theorem uJ9_max_7cf53_9 : uJ9_max_7cf53 9 = none := rfl
theorem bJ9_max_7cf53_10 : bJ9_max_7cf53 10 = [(.ireturn, 1)] := rfl
theorem uJ9_max_7cf53_10 : uJ9_max_7cf53 10 = none := rfl
set_option maxRecDepth 100000 in
set_option maxHeartbeats 4000000 in
theorem okJ9_max_7cf53 : pvOkM fJ9 aJ9_max_7cf53 kJ9 eJ9 (some .int) bJ9_max_7cf53 uJ9_max_7cf53 2 C_J9_max_7cf53 := by
  intro Q SW hc as z h hS hz
  unfold C_J9_max_7cf53 at h
  split at h
  · rename_i a b
    refine ⟨Nat.le_of_ble_eq_true rfl, hc 20 _ _ _ fun _ _ => ?_⟩
    clear hc hS
    simp only [pvSt1]
    simp only [pvE_iload_n0, pvLI_s, pvLd, pvE_iload_n1, pvE_icmp_lt, pvE_goto, pvE_ireturn, bJ9_max_7cf53_0, uJ9_max_7cf53_0, bJ9_max_7cf53_9, uJ9_max_7cf53_9, bJ9_max_7cf53_10, uJ9_max_7cf53_10, pvRtG, pvRecv_r, pvUp_nl, pvUp_same, pvUp_ap, pvSt_ap, pvX_c, pvX_ms, pvX_mn, pvE_nil, pvEn_i, pvEn_r, pvEn_l, pvEn_0, pvEn_s, pvRt, pvRv, pvTh, pvKc, pvGo, pvTgt, Int.toNat_natCast, false_and, and_false, true_and, and_true, if_true, if_false, reduceIte, reduceCtorEq, forall_const, false_or, or_false, true_or, or_true, ne_eq, not_true_eq_false, not_false_eq_true, implies_true, false_implies, Nat.reduceAdd, Nat.reduceSub, Nat.reduceMul, Nat.reduceEqDiff, Nat.reduceLT, Nat.reduceLeDiff, Int.reduceAdd, Int.reduceSub, Int.reduceMul, Int.reduceNeg, Int.reduceToNat, Int.reduceLE, Int.reduceLT, Int.reduceEq, Int.reduceNe, and_self]
    grind
  · exact h.elim
theorem pcF_r (x : Int) : 0 ≤ pcF x ∧ pcF x ≤ 16 := by
  have := pcK_le x.toNat 16
  unfold pcF
  omega
theorem an63 {a : Int} (h : 0 ≤ a ∧ a ≤ 2147483647) : 0 ≤ pvAnd a 63 ∧ pvAnd a 63 ≤ 63 := by
  obtain ⟨n, rfl⟩ : ∃ n : Nat, a = n := ⟨a.toNat, by omega⟩
  have b := pvAnd_n (x := n) (y := 63) (by omega) (by decide)
  have c : n &&& 63 ≤ 63 := Nat.and_le_right
  show 0 ≤ pvAnd (n : Int) ((63 : Nat) : Int) ∧ pvAnd (n : Int) ((63 : Nat) : Int) ≤ 63
  rw [b]
  omega
/-- how many valuations a transition's allowed values let through -/
def cnF (a : Int) : Int := pcF (pvAnd a 63) * pcF (pvAnd (pvShr a 6) 63) * pcF (pvAnd (pvShr a 12) 63)
theorem mul16 {a b : Int} {n m : Nat} (ha : 0 ≤ a ∧ a ≤ n) (hb : 0 ≤ b ∧ b ≤ m) : 0 ≤ a * b ∧ a * b ≤ ((n * m : Nat) : Int) := by
  obtain ⟨x, rfl⟩ : ∃ x : Nat, a = x := ⟨a.toNat, by omega⟩
  obtain ⟨y, rfl⟩ : ∃ y : Nat, b = y := ⟨b.toNat, by omega⟩
  have := Nat.mul_le_mul (show x ≤ n by omega) (show y ≤ m by omega)
  rw [← Int.natCast_mul]
  omega
