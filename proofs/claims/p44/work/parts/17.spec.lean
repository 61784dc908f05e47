def gwF (x d : Int) : Int := if x = 5 then 5 else if 4 < x + d then 4 else x + d
def psF (v d : Int) : Int := gwF (v % 6) d + 6 * gwF (v / 6 % 6) d + 36 * gwF (v / 36) d
def ptF (v c : Int) : Int := if c = 0 then v % 6 else if c = 1 then v / 6 % 6 else v / 36
def rsF (v c : Int) : Int := if c = 0 then v - v % 6 else if c = 1 then v - v / 6 % 6 * 6 else v % 36
def dgF (x : Int) : Int := if x = 5 then 9 else x
def tdF (v : Int) : Int := dgF (v % 6) + 10 * dgF (v / 6 % 6) + 100 * dgF (v / 36)
def hdF (kind num x : Int) : Bool := if 5 ≤ kind then (decide (x = 5)) == (decide (kind = 5)) else if x = 5 then false else if kind = 0 then decide (x < num) else if kind = 1 then decide (x ≤ num) else if kind = 2 then decide (x = num) else if kind = 3 then decide (num ≤ x) else decide (num < x)
/-- the values that satisfy a constraint, as bits -/
def smF (kind num : Int) : Int := (if hdF kind num 0 then 1 else 0) + (if hdF kind num 1 then 2 else 0) + (if hdF kind num 2 then 4 else 0) + (if hdF kind num 3 then 8 else 0) + (if hdF kind num 4 then 16 else 0) + (if hdF kind num 5 then 32 else 0)
def nwF (a c v : Int) : Int := ((a.toNat &&& (262143 - 63 * 64 ^ c.toNat + v.toNat * 64 ^ c.toNat) : Nat) : Int)
def alF (a v : Int) : Bool := a.toNat.testBit (v % 6).toNat && a.toNat.testBit (6 + (v / 6 % 6).toNat) && a.toNat.testBit (12 + (v / 36).toNat)
theorem gwF_r {x d : Int} (h : 0 ≤ x ∧ x ≤ 5 ∧ 0 ≤ d) : 0 ≤ gwF x d ∧ gwF x d ≤ 5 := by
  unfold gwF
  omega
theorem psF_r {v d : Int} (h : 0 ≤ v ∧ v < 216 ∧ 0 ≤ d) : 0 ≤ psF v d ∧ psF v d < 216 := by
  have h1 := gwF_r (x := v % 6) (d := d) (by omega)
  have h2 := gwF_r (x := v / 6 % 6) (d := d) (by omega)
  have h3 := gwF_r (x := v / 36) (d := d) (by omega)
  unfold psF
  omega
theorem rsF_r {v c : Int} (h : 0 ≤ v ∧ v < 216) : 0 ≤ rsF v c ∧ rsF v c < 216 := by
  unfold rsF
  omega
theorem ptF_r {v c : Int} (h : 0 ≤ v ∧ v < 216) : 0 ≤ ptF v c ∧ ptF v c ≤ 5 := by
  unfold ptF
  omega
theorem smF_r (kind num : Int) : 0 ≤ smF kind num ∧ smF kind num ≤ 63 := by
  unfold smF
  omega
theorem smF_0 : ∀ n : Fin 4, smF 0 (n : Nat) = pvShl 1 (n : Nat) - 1 := by decide +kernel
theorem smF_1 : ∀ n : Fin 4, smF 1 (n : Nat) = pvShl 2 (n : Nat) - 1 := by decide +kernel
theorem smF_2 : ∀ n : Fin 4, smF 2 (n : Nat) = pvShl 1 (n : Nat) := by decide +kernel
theorem smF_3 : ∀ n : Fin 4, smF 3 (n : Nat) = pvAnd 31 (pvXor (pvShl 1 (n : Nat) - 1) (-1)) := by decide +kernel
theorem smF_4 : ∀ n : Fin 4, smF 4 (n : Nat) = pvAnd 31 (pvXor (pvShl 2 (n : Nat) - 1) (-1)) := by decide +kernel
theorem smF_5 : ∀ n : Fin 4, smF 5 (n : Nat) = 32 := by decide +kernel
theorem smF_6 : ∀ n : Fin 4, smF 6 (n : Nat) = 31 := by decide +kernel
theorem smF_bit : ∀ (k : Fin 7) (n : Fin 4) (x : Fin 6), (smF (k : Nat) (n : Nat)).toNat.testBit x = hdF (k : Nat) (n : Nat) (x : Nat) := by
  decide +kernel
theorem nw_mask : ∀ (c : Fin 3) (v : Fin 64), pvOr (pvAnd 262143 (pvXor (pvShl 63 (6 * ((c : Nat) : Int))) (-1))) (pvShl (v : Nat) (6 * ((c : Nat) : Int))) = ((262143 - 63 * 64 ^ (c : Nat) + (v : Nat) * 64 ^ (c : Nat) : Nat) : Int) := by
  decide +kernel
theorem fin_of {a : Int} {n : Nat} (h : 0 ≤ a ∧ a < n) : ∃ k : Fin n, a = ((k : Nat) : Int) := ⟨⟨a.toNat, by omega⟩, by show a = ((a.toNat : Nat) : Int); omega⟩
theorem dgF_r {x : Int} (h : 0 ≤ x ∧ x ≤ 5) : 0 ≤ dgF x ∧ dgF x ≤ 9 := by
  unfold dgF
  omega

