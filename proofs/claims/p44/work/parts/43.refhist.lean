/-- one more change is kept: what the changes behind it hold, and itself -/
def chgF (z z' : pvM) : Prop := z'.1 39 3 = (if z.1 39 3 = 8 then 8 else z.1 39 3 + 1) ∧ (∀ i k : Nat, (i : Int) + 1 < z'.1 39 3 → k < 326 → z'.1 42 (326 * i + k) = z.1 42 (326 * (if z.1 39 3 = 8 then i + 1 else i) + k)) ∧ ∀ k : Nat, k < 326 → z'.1 42 (326 * (z'.1 39 3 - 1).toNat + k) = z.1 40 k
