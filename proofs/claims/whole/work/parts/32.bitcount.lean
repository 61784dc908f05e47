/-! the library's own small methods, and what is counted by bits -/
/-- how many of the first k bits of n are set -/
def pcK (n : Nat) : Nat → Nat
  | 0 => 0
  | k + 1 => pcK n k + (if n.testBit k then 1 else 0)
def pcF (x : Int) : Int := (pcK x.toNat 16 : Nat)
def bc1 (x : Nat) : Nat := x - (x >>> 1 &&& 1431655765)
def bc2 (x : Nat) : Nat := (x &&& 858993459) + (x >>> 2 &&& 858993459)
def bc3 (x : Nat) : Nat := x + x >>> 4 &&& 252645135
def bc4 (x : Nat) : Nat := x + x >>> 8
def bc5 (x : Nat) : Nat := x + x >>> 16 &&& 63
def bcP (x : Nat) : Nat := bc3 (bc2 (bc1 x))
theorem and256 {a b c d : Nat} (hb : b < 256) (hd : d < 256) : (256 * a + b) &&& (256 * c + d) = 256 * (a &&& c) + (b &&& d) := by
  apply Nat.eq_of_testBit_eq
  intro j
  have h1 := Nat.testBit_two_pow_mul_add a (b_lt := (show b < 2 ^ 8 from hb)) j
  have h2 := Nat.testBit_two_pow_mul_add c (b_lt := (show d < 2 ^ 8 from hd)) j
  have h3 := Nat.testBit_two_pow_mul_add (a &&& c) (b_lt := (show b &&& d < 2 ^ 8 from Nat.and_lt_two_pow b hd)) j
  rw [Nat.testBit_and, show 256 * a + b = 2 ^ 8 * a + b from rfl, show 256 * c + d = 2 ^ 8 * c + d from rfl, show 256 * (a &&& c) + (b &&& d) = 2 ^ 8 * (a &&& c) + (b &&& d) from rfl, h1, h2, h3]
  split
  · rw [Nat.testBit_and]
  · rw [Nat.testBit_and]
theorem bcA : ∀ h : Fin 256, (h.val >>> 1 &&& 5592405) = (h.val >>> 1 &&& 1431655765) ∧ (h.val >>> 1 &&& 1431655765) ≤ h.val ∧ bc1 h.val < 256 := by decide +kernel
theorem bcB : ∀ (p : Fin 2) (l : Fin 256), (128 * p.val + l.val >>> 1 &&& 85) = (l.val >>> 1 &&& 1431655765) := by decide +kernel
theorem bcC : ∀ h : Fin 256, (h.val >>> 2 &&& 3355443) = (h.val >>> 2 &&& 858993459) ∧ (h.val &&& 3355443) = (h.val &&& 858993459) ∧ (h.val &&& 51) = (h.val &&& 858993459) := by decide +kernel
theorem bcC1 : ∀ h : Fin 256, bc2 (bc1 h.val) ≤ 68 ∧ bc2 (bc1 h.val) % 16 ≤ 4 := by decide +kernel
theorem bcD : ∀ (p : Fin 4) (l : Fin 256), (64 * p.val + l.val >>> 2 &&& 51) = (l.val >>> 2 &&& 858993459) := by decide +kernel
theorem bcE : ∀ (p : Fin 16) (l : Fin 69), (16 * p.val + l.val >>> 4 + l.val &&& 15) = bc3 l.val := by decide +kernel
theorem bcG : ∀ h : Fin 69, (h.val + h.val >>> 4 &&& 986895) = bc3 h.val := by decide +kernel
theorem bcP_8 : ∀ h : Fin 256, bcP h.val = pcK h.val 8 ∧ bcP h.val ≤ 8 := by decide +kernel
theorem bcQ : ∀ a b : Fin 9, bc5 (bc4 (256 * a.val + b.val)) = b.val + a.val := by decide +kernel
theorem bc1_256 {h l : Nat} (hh : h < 256) (hl : l < 256) : bc1 (256 * h + l) = 256 * bc1 h + bc1 l := by
  have a := bcA ⟨h, hh⟩
  have b := bcA ⟨l, hl⟩
  have c := bcB ⟨h % 2, by omega⟩ ⟨l, hl⟩
  simp only at a b c
  have e : (256 * h + l) >>> 1 = 256 * (h >>> 1) + (128 * (h % 2) + l >>> 1) := by simp only [Nat.shiftRight_eq_div_pow]; omega
  have g : 128 * (h % 2) + l >>> 1 < 256 := by simp only [Nat.shiftRight_eq_div_pow]; omega
  have m2 : (256 * h + l) >>> 1 &&& 1431655765 = 256 * (h >>> 1 &&& 1431655765) + (l >>> 1 &&& 1431655765) := by
    rw [e, ← a.1, ← c]; exact and256 (c := 5592405) (d := 85) g (by decide)
  unfold bc1
  rw [m2]
  omega
theorem bc2_256 {h l : Nat} (hh : h < 256) (hl : l < 256) : bc2 (256 * h + l) = 256 * bc2 h + bc2 l := by
  have a := bcC ⟨h, hh⟩
  have b := bcC ⟨l, hl⟩
  have c := bcD ⟨h % 4, by omega⟩ ⟨l, hl⟩
  simp only at a b c
  have e : (256 * h + l) >>> 2 = 256 * (h >>> 2) + (64 * (h % 4) + l >>> 2) := by simp only [Nat.shiftRight_eq_div_pow]; omega
  have g : 64 * (h % 4) + l >>> 2 < 256 := by simp only [Nat.shiftRight_eq_div_pow]; omega
  have m1 : (256 * h + l) &&& 858993459 = 256 * (h &&& 858993459) + (l &&& 858993459) := by
    rw [← a.2.1, ← b.2.2]; exact and256 (c := 3355443) (d := 51) hl (by decide)
  have m2 : (256 * h + l) >>> 2 &&& 858993459 = 256 * (h >>> 2 &&& 858993459) + (l >>> 2 &&& 858993459) := by
    rw [e, ← a.1, ← c]; exact and256 (c := 3355443) (d := 51) g (by decide)
  unfold bc2
  rw [m1, m2]
  omega
theorem bc3_256 {h l : Nat} (hh : h ≤ 68 ∧ h % 16 ≤ 4) (hl : l ≤ 68) : bc3 (256 * h + l) = 256 * bc3 h + bc3 l := by
  have a := bcG ⟨h, by omega⟩
  have c := bcE ⟨h % 16, by omega⟩ ⟨l, by omega⟩
  simp only at a c
  have e : (256 * h + l) + (256 * h + l) >>> 4 = 256 * (h + h >>> 4) + (16 * (h % 16) + l >>> 4 + l) := by simp only [Nat.shiftRight_eq_div_pow]; omega
  have g : 16 * (h % 16) + l >>> 4 + l < 256 := by simp only [Nat.shiftRight_eq_div_pow]; omega
  show (256 * h + l) + (256 * h + l) >>> 4 &&& 252645135 = _
  rw [e, ← a, ← c]
  exact and256 (c := 986895) (d := 15) g (by decide)
theorem pcK_le (n : Nat) (k : Nat) : pcK n k ≤ k := by
  induction k with
  | zero => exact Nat.le_refl _
  | succ k ih => simp only [pcK]; split <;> omega
theorem pcK_256 {h l : Nat} (hl : l < 256) : pcK (256 * h + l) 16 = pcK l 8 + pcK h 8 := by
  have q := fun j => Nat.testBit_two_pow_mul_add h (b_lt := (show l < 2 ^ 8 from hl)) j
  have e : ∀ j, (256 * h + l).testBit j = if j < 8 then l.testBit j else h.testBit (j - 8) := q
  simp only [pcK, e, Nat.reduceLT, Nat.reduceSub, if_true, if_false]
  omega
theorem bc_eq {x : Nat} (h : x < 65536) : bc5 (bc4 (bc3 (bc2 (bc1 x)))) = pcK x 16 := by
  obtain ⟨a, b, ha, hb, rfl⟩ : ∃ a b, a < 256 ∧ b < 256 ∧ x = 256 * a + b := ⟨x / 256, x % 256, by omega, by omega, by omega⟩
  have pa := bcP_8 ⟨a, ha⟩
  have pb := bcP_8 ⟨b, hb⟩
  have qa := bcC1 ⟨a, ha⟩
  have qb := bcC1 ⟨b, hb⟩
  have ra := bcA ⟨a, ha⟩
  have rb := bcA ⟨b, hb⟩
  simp only [bcP] at pa pb qa qb ra rb
  rw [bc1_256 ha hb, bc2_256 ra.2.2 rb.2.2, bc3_256 qa qb.1, pcK_256 hb, ← pa.1, ← pb.1]
  exact bcQ ⟨_, Nat.lt_succ_of_le pa.2⟩ ⟨_, Nat.lt_succ_of_le pb.2⟩
