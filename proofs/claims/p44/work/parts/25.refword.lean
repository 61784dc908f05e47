def afK (A : Aut) (d l : Nat → Int) : Nat → Int
  | 0 => A.2.1
  | k + 1 => sbF A (afK A d l k) (l k) (psF (vaF d l k) (d k))
theorem afK_r {A : Aut} (h : WfA A) (d l : Nat → Int) (k : Nat) : 0 ≤ afK A d l k ∧ afK A d l k ≤ 15 := by
  cases k with
  | zero => exact h.2.1
  | succ k => exact sbF_r h _ _ _
