def svK (T : Nat → Int) : Nat → Int
  | 0 => 0
  | k + 1 => svK T k + (if blF T k < 0 then 1 else 0)
theorem svK_r (T : Nat → Int) (k : Nat) : 0 ≤ svK T k ∧ svK T k ≤ k := by
  induction k with
  | zero => exact ⟨Int.le_refl 0, Int.le_refl 0⟩
  | succ k ih =>
    simp only [svK]
    split <;> omega
def stK (A : Aut) (d l : Nat → Int) : Nat → Nat → Int
  | 0, _ => -1
  | m + 1, k => if afK A d l (k + 1) = 0 then k else stK A d l m (k + 1)
/-- there is such a transition -/
def trF (A : Int → Aut) (s t : Int) : Prop := (0 ≤ s ∧ s ≤ 1) ∧ 0 ≤ t ∧ t < (A s).1
theorem rc_of {z : pvM} {s : Int} (h : 0 ≤ s) : rcF z s = (autR (z.1 40) s).1 := rS_n h rfl
