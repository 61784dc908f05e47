def fkD (x : FP.Core.Datum) : Bool := match x with
  | .fin _ d _ => d != 0
  | _ => false
theorem fkD_t {x : FP.Core.Datum} (h : fkD x = true) : ∃ t d r, x = .fin t d r ∧ d ≠ 0 := by
  cases x with
  | nan => exact absurd h (by decide)
  | inf s => exact absurd h Bool.false_ne_true
  | fin t d r => exact ⟨t, d, r, rfl, by simpa [fkD] using h⟩
theorem po_b : ∀ k : Fin 11, fkD (FP.Core.decode FP.Core.b64 (FP.l2d (Int64.ofInt (15 ^ k.val))).toNat) = true := by decide +kernel
theorem th_b : ∀ k : Fin 100, fkD (FP.Core.decode FP.Core.b32 (FP.i2f (Int32.ofInt ((k.val : Int) + 1))).toNat) = true := by decide +kernel
/-- the share: accepted words of all of that length -/
def shD (n : Int) (e : Nat) : UInt64 := FP.ddiv (FP.l2d (Int64.ofInt n)) (FP.l2d (Int64.ofInt (15 ^ e)))
theorem shD_n {n : Int} {e : Nat} (he : e ≤ 10) : vf_n64 (shD n e) := by
  obtain ⟨t, d, r, h1, h2⟩ := fkD_t (po_b ⟨e, by omega⟩)
  exact ddiv_n (l2d_n _) h1 h2
/-- the average: branches of so many sets and letters -/
def avD (n k : Int) : UInt32 := FP.fdiv (FP.i2f (Int32.ofInt n)) (FP.i2f (Int32.ofInt k))
theorem avD_n {n k : Int} (hk : 1 ≤ k ∧ k ≤ 100) : vf_n32 (avD n k) := by
  obtain ⟨t, d, r, h1, h2⟩ := fkD_t (th_b ⟨(k - 1).toNat, by omega⟩)
  rw [show (((k - 1).toNat : Nat) : Int) + 1 = k by omega] at h1
  exact fdiv_n (i2f_n _) h1 h2
