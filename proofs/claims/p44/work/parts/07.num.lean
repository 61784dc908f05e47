/-! numbers: ints of 32 and 64 bits as whole numbers -/
theorem pvN_i {a : Int} (h : pvR a) : (Int32.ofInt a).toInt = a := Int32.toInt_ofInt_of_le (by show -2 ^ 31 ≤ a; omega) (by omega)
theorem pvN_il {a : Int} (h : pvRL a) : (Int64.ofInt a).toInt = a := Int64.toInt_ofInt_of_le (by show -2 ^ 63 ≤ a; omega) (by omega)
theorem pvR_to (x : Int32) : pvR x.toInt := ⟨Int32.le_toInt x, by have := Int32.toInt_lt x; omega⟩
theorem pvN_to (x : Int32) : Int32.ofInt x.toInt = x := Int32.ofInt_toInt x
theorem pvN_lt {a b : Int} (ha : pvR a) (hb : pvR b) : Int32.ofInt a < Int32.ofInt b ↔ a < b := by
  rw [Int32.lt_iff_toInt_lt, pvN_i ha, pvN_i hb]
theorem pvN_le {a b : Int} (ha : pvR a) (hb : pvR b) : Int32.ofInt a ≤ Int32.ofInt b ↔ a ≤ b := by
  rw [Int32.le_iff_toInt_le, pvN_i ha, pvN_i hb]
theorem pvN_eq {a b : Int} (ha : pvR a) (hb : pvR b) : Int32.ofInt a = Int32.ofInt b ↔ a = b := by
  rw [← Int32.toInt_inj, pvN_i ha, pvN_i hb]
theorem pvN_ltl {a b : Int} (ha : pvRL a) (hb : pvRL b) : Int64.ofInt a < Int64.ofInt b ↔ a < b := by
  rw [Int64.lt_iff_toInt_lt, pvN_il ha, pvN_il hb]
theorem pvN_eql {a b : Int} (ha : pvRL a) (hb : pvRL b) : Int64.ofInt a = Int64.ofInt b ↔ a = b := by
  rw [← Int64.toInt_inj, pvN_il ha, pvN_il hb]
theorem pvN_add (a b : Int) : Int32.ofInt (a + b) = Int32.ofInt a + Int32.ofInt b := Int32.ofInt_add _ _
theorem pvN_sub (a b : Int) : Int32.ofInt (a - b) = Int32.ofInt a - Int32.ofInt b := Int32.ofInt_sub _ _
theorem pvN_mul (a b : Int) : Int32.ofInt (a * b) = Int32.ofInt a * Int32.ofInt b := Int32.ofInt_mul _ _
theorem pvN_neg (a : Int) : Int32.ofInt (-a) = -Int32.ofInt a := Int32.ofInt_neg _
theorem pvN_addl (a b : Int) : Int64.ofInt (a + b) = Int64.ofInt a + Int64.ofInt b := Int64.ofInt_add _ _
theorem pvN_mull (a b : Int) : Int64.ofInt (a * b) = Int64.ofInt a * Int64.ofInt b := Int64.ofInt_mul _ _
theorem pvN_nat {a : Int} (h : pvR a) : (Int32.ofInt a).toNatClampNeg = a.toNat := by
  show (Int32.ofInt a).toInt.toNat = _
  rw [pvN_i h]
theorem pvN_in {a : Int} {n : Nat} (h : pvR a) (h0 : 0 ≤ a) (h1 : a < n) : vp_in (Int32.ofInt a) n := by
  unfold vp_in
  rw [pvN_nat h, show (0 : Int32) = Int32.ofInt 0 from rfl, pvN_lt h (by decide)]
  omega
theorem pvN_n0 {a : Int} (h : pvR a) (h0 : 0 ≤ a) : ¬ Int32.ofInt a < 0 := by
  rw [show (0 : Int32) = Int32.ofInt 0 from rfl, pvN_lt h (by decide)]
  omega
theorem pvR_div {a b : Int} (ha : pvR a) (h0 : 0 ≤ a) (h1 : 0 < b) : pvR (a / b) := by
  have h2 : 0 ≤ a / b := Int.ediv_nonneg h0 (Int.le_of_lt h1)
  have h3 : a / b ≤ a := Int.ediv_le_self b h0
  unfold pvR at *
  omega
theorem pvR_rem {a b : Int} (hb : pvR b) (h1 : 0 < b) : pvR (a % b) := by
  have h2 : 0 ≤ a % b := Int.emod_nonneg a (by omega)
  have h3 : a % b < b := Int.emod_lt_of_pos a h1
  unfold pvR at *
  omega
theorem pvN_div {a b : Int} (ha : pvR a) (hb : pvR b) (h0 : 0 ≤ a) (h1 : 0 < b) : Int32.ofInt a / Int32.ofInt b = Int32.ofInt (a / b) := by
  rw [← Int32.toInt_inj, Int32.toInt_div, pvN_i ha, pvN_i hb, pvN_i (pvR_div ha h0 h1), Int.tdiv_eq_ediv_of_nonneg h0]
  have := pvR_div ha h0 h1
  unfold pvR at this
  exact Int.bmod_eq_of_le (by omega) (by omega)
theorem pvN_rem {a b : Int} (ha : pvR a) (hb : pvR b) (h0 : 0 ≤ a) (h1 : 0 < b) : Int32.ofInt a - Int32.ofInt a / Int32.ofInt b * Int32.ofInt b = Int32.ofInt (a % b) := by
  rw [pvN_div ha hb h0 h1, ← pvN_mul, ← pvN_sub]
  congr 1
  have := Int.mul_ediv_add_emod a b
  rw [Int.mul_comm]
  omega
theorem pvN_b8 {k : Int} (h : -128 ≤ k ∧ k ≤ 127) : (Int8.ofInt k).toInt32 = Int32.ofInt k := by
  rw [← Int32.toInt_inj, Int8.toInt_toInt32, Int8.toInt_ofInt_of_le (by show -2 ^ 7 ≤ k; omega) (by omega), pvN_i (by unfold pvR; omega)]
theorem pvN_b16 {k : Int} (h : -32768 ≤ k ∧ k ≤ 32767) : (Int16.ofInt k).toInt32 = Int32.ofInt k := by
  rw [← Int32.toInt_inj, Int16.toInt_toInt32, Int16.toInt_ofInt_of_le (by show -2 ^ 15 ≤ k; omega) (by omega), pvN_i (by unfold pvR; omega)]
theorem pvN_i2l {a : Int} (h : pvR a) : (Int32.ofInt a).toInt64 = Int64.ofInt a := by
  rw [← Int64.toInt_inj, Int32.toInt_toInt64, pvN_i h, pvN_il (by unfold pvR at h; unfold pvRL; omega)]
theorem pvN_cmp {a b : Int} (ha : pvRL a) (hb : pvRL b) : lg_cmp (Int64.ofInt a) (Int64.ofInt b) = Int32.ofInt (if b < a then 1 else if a = b then 0 else -1) := by
  unfold lg_cmp
  simp only [gt_iff_lt, pvN_ltl hb ha, pvN_eql ha hb]
  split
  · rfl
  · split <;> rfl
theorem pvR_cmp {a b : Int} : pvR (if b < a then 1 else if a = b then 0 else -1) := by
  unfold pvR
  split
  · omega
  · split <;> omega
theorem pvN_al (n : Nat) : Int32.ofNat n = Int32.ofInt (n : Int) := rfl
