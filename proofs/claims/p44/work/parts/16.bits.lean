theorem pvT_nat {a : Int} (h0 : 0 ≤ a) (h1 : a ≤ 2147483647) : (Int32.ofInt a).toBitVec.toNat = a.toNat := by
  show (BitVec.ofInt 32 a).toNat = _
  rw [BitVec.toNat_ofInt]
  omega
theorem pvT_int {x : Int32} (h : x.toBitVec.toNat ≤ 2147483647) : x.toInt = (x.toBitVec.toNat : Int) := by
  show x.toBitVec.toInt = _
  rw [BitVec.toInt_eq_toNat_cond]
  rw [if_pos (by omega)]
theorem pvAnd_nat {a b : Int} (ha : 0 ≤ a) (ha1 : a ≤ 2147483647) (hb : 0 ≤ b) (hb1 : b ≤ 2147483647) : pvAnd a b = ((a.toNat &&& b.toNat : Nat) : Int) := by
  have e : (Int32.ofInt a &&& Int32.ofInt b).toBitVec.toNat = a.toNat &&& b.toNat := by
    rw [Int32.toBitVec_and, BitVec.toNat_and, pvT_nat ha ha1, pvT_nat hb hb1]
  unfold pvAnd
  rw [pvT_int (by rw [e]; exact Nat.le_trans Nat.and_le_left (by omega)), e]
theorem pvOr_nat {a b : Int} (ha : 0 ≤ a) (ha1 : a ≤ 2147483647) (hb : 0 ≤ b) (hb1 : b ≤ 2147483647) : pvOr a b = ((a.toNat ||| b.toNat : Nat) : Int) := by
  have e : (Int32.ofInt a ||| Int32.ofInt b).toBitVec.toNat = a.toNat ||| b.toNat := by
    rw [Int32.toBitVec_or, BitVec.toNat_or, pvT_nat ha ha1, pvT_nat hb hb1]
  have h2 : a.toNat ||| b.toNat < 2 ^ 31 := Nat.or_lt_two_pow (by omega) (by omega)
  unfold pvOr
  rw [pvT_int (by rw [e]; omega), e]
theorem pvXor_nat {a b : Int} (ha : 0 ≤ a) (ha1 : a ≤ 2147483647) (hb : 0 ≤ b) (hb1 : b ≤ 2147483647) : pvXor a b = ((a.toNat ^^^ b.toNat : Nat) : Int) := by
  have e : (Int32.ofInt a ^^^ Int32.ofInt b).toBitVec.toNat = a.toNat ^^^ b.toNat := by
    rw [Int32.toBitVec_xor, BitVec.toNat_xor, pvT_nat ha ha1, pvT_nat hb hb1]
  have h2 : a.toNat ^^^ b.toNat < 2 ^ 31 := Nat.xor_lt_two_pow (by omega) (by omega)
  unfold pvXor
  rw [pvT_int (by rw [e]; omega), e]
theorem pv_sh31 {k : Int} (h0 : 0 ≤ k) (h1 : k ≤ 31) : (Int32.ofInt k &&& 31).toBitVec.toNat = k.toNat := by
  rw [Int32.toBitVec_and, BitVec.toNat_and, pvT_nat h0 (by omega)]
  show k.toNat &&& 31 = _
  have : k.toNat &&& 31 = k.toNat % 2 ^ 5 := Nat.and_two_pow_sub_one_eq_mod k.toNat 5
  rw [this]
  omega
theorem pv_smod : ∀ k : Fin 32, ((Int32.ofInt ((k : Nat) : Int) &&& 31).toBitVec.smod 32) = BitVec.ofNat 32 k := by decide +kernel
theorem pv_smodI {k : Int} (h0 : 0 ≤ k) (h1 : k ≤ 31) : ((Int32.ofInt k &&& 31).toBitVec.smod 32) = BitVec.ofNat 32 k.toNat := by
  have h := pv_smod ⟨k.toNat, by omega⟩
  rw [show (((⟨k.toNat, by omega⟩ : Fin 32) : Nat) : Int) = k by show ((k.toNat : Nat) : Int) = k; omega] at h
  exact h
theorem pvShl_nat {a k : Int} (ha : 0 ≤ a) (hk : 0 ≤ k) (hk1 : k ≤ 30) (h : a * 2 ^ k.toNat ≤ 2147483647) : pvShl a k = a * 2 ^ k.toNat := by
  obtain ⟨n, rfl⟩ : ∃ n : Nat, k = n := ⟨k.toNat, by omega⟩
  obtain ⟨x, rfl⟩ : ∃ x : Nat, a = x := ⟨a.toNat, by omega⟩
  simp only [Int.toNat_natCast] at h ⊢
  have h9 : ((x * 2 ^ n : Nat) : Int) ≤ 2147483647 := by rw [Int.natCast_mul, Int.natCast_pow]; exact h
  have h2 : x * 2 ^ n ≤ 2147483647 := by omega
  have h3 : x ≤ x * 2 ^ n := Nat.le_mul_of_pos_right x (Nat.two_pow_pos n)
  have e : (Int32.ofInt (x : Int) <<< (Int32.ofInt (n : Int) &&& 31)).toBitVec.toNat = x * 2 ^ n := by
    rw [Int32.toBitVec_shiftLeft, pv_smodI (by omega) (by omega), BitVec.shiftLeft_eq', BitVec.toNat_shiftLeft, pvT_nat (by omega) (by omega), BitVec.toNat_ofNat, Nat.shiftLeft_eq]
    simp only [Int.toNat_natCast]
    rw [Nat.mod_eq_of_lt (a := n) (by omega), Nat.mod_eq_of_lt (by omega)]
  unfold pvShl
  rw [pvT_int (by rw [e]; exact h2), e]
  norm_cast
theorem pvShr_nat {a k : Int} (ha : 0 ≤ a) (ha1 : a ≤ 2147483647) (hk : 0 ≤ k) (hk1 : k ≤ 31) : pvShr a k = a / 2 ^ k.toNat := by
  obtain ⟨n, rfl⟩ : ∃ n : Nat, k = n := ⟨k.toNat, by omega⟩
  obtain ⟨x, rfl⟩ : ∃ x : Nat, a = x := ⟨a.toNat, by omega⟩
  simp only [Int.toNat_natCast]
  have e : (Int32.ofInt (x : Int) >>> (Int32.ofInt (n : Int) &&& 31)).toBitVec.toNat = x / 2 ^ n := by
    rw [Int32.toBitVec_shiftRight, pv_smodI (by omega) (by omega), BitVec.sshiftRight_eq', BitVec.sshiftRight_eq_of_msb_false, BitVec.toNat_ushiftRight, pvT_nat (by omega) (by omega), BitVec.toNat_ofNat, Nat.shiftRight_eq_div_pow]
    · simp only [Int.toNat_natCast]
      rw [Nat.mod_eq_of_lt (a := n) (by omega)]
    · rw [BitVec.msb_eq_false_iff_two_mul_lt, pvT_nat (by omega) (by omega)]
      omega
  unfold pvShr
  have : x / 2 ^ n ≤ x := Nat.div_le_self _ _
  rw [pvT_int (by rw [e]; omega), e]
  norm_cast

