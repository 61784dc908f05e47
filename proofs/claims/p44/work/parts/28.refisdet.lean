def dtF (A : Aut) : Prop := (A.2.1 ≠ 0 ∧ pvAnd A.2.1 (A.2.1 - 1) = 0) ∧ ∀ t u : Nat, (t : Int) < A.1 → u < t → ¬ clF A t u
