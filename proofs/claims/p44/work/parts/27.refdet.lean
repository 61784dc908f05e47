theorem stK_ge (A : Aut) (d l : Nat → Int) (m k : Nat) : -1 ≤ stK A d l m k := by
  induction m generalizing k with
  | zero => exact Int.le_refl _
  | succ m ih =>
    simp only [stK]
    split
    · omega
    · exact ih _
/-- two transitions that one valuation allows -/
def clF (A : Aut) (t u : Nat) : Prop := A.2.2.2 t 0 = A.2.2.2 u 0 ∧ A.2.2.2 t 1 = A.2.2.2 u 1 ∧ ∃ v : Nat, v < 216 ∧ blF (A.2.2.2 t) v < 0 ∧ blF (A.2.2.2 u) v < 0
