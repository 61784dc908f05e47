/-- a sign at p: its kind, the place behind it -/
def khF (ch : Nat → Int) (p : Nat) : Int × Nat :=
  if ch p = 63 then (5, p + 1) else if ch p = 33 then (6, p + 1) else if ch p = 61 then (2, p + 1)
  else if ch p = 60 then (if ch (p + 1) = 61 then (1, p + 2) else (0, p + 1))
  else if ch p = 62 then (if ch (p + 1) = 61 then (3, p + 2) else (4, p + 1)) else (-1, p)
theorem kcF_kh (ch : Nat → Int) (p : Nat) : kcF ch p = if ¬ (97 ≤ ch p ∧ ch p ≤ 99) then (false, 0, 0, 0, p) else if (khF ch (p + 1)).1 < 0 then (false, 0, 0, 0, p + 1) else if 5 ≤ (khF ch (p + 1)).1 then (true, ch p - 97, (khF ch (p + 1)).1, 0, p + 2) else kdF ch (ch p - 97) (khF ch (p + 1)).1 (khF ch (p + 1)).2 := by
  unfold kcF khF
  (repeat' split) <;> first | rfl | omega | (simp at *; done) | (simp at *; omega)
theorem khF_r (ch : Nat → Int) (p : Nat) : (-1 ≤ (khF ch p).1 ∧ (khF ch p).1 ≤ 6) ∧ p ≤ (khF ch p).2 ∧ (khF ch p).2 ≤ p + 2 ∧ ((khF ch p).1 < 0 → (khF ch p).2 = p) ∧ (5 ≤ (khF ch p).1 → (khF ch p).2 = p + 1) := by
  unfold khF
  (repeat' split) <;> simp
