/-! the text of a guard, read -/
def kdF (ch : Nat → Int) (c k : Int) (q : Nat) : Bool × Int × Int × Int × Nat := if 48 ≤ ch q ∧ ch q ≤ 51 then (true, c, k, ch q - 48, q + 1) else (false, 0, 0, 0, q)
/-- a constraint at p: is it one, its clock, kind, number, the place behind it or of the fault -/
def kcF (ch : Nat → Int) (p : Nat) : Bool × Int × Int × Int × Nat :=
  if ¬ (97 ≤ ch p ∧ ch p ≤ 99) then (false, 0, 0, 0, p)
  else if ch (p + 1) = 63 then (true, ch p - 97, 5, 0, p + 2)
  else if ch (p + 1) = 33 then (true, ch p - 97, 6, 0, p + 2)
  else if ch (p + 1) = 61 then kdF ch (ch p - 97) 2 (p + 2)
  else if ch (p + 1) = 60 then (if ch (p + 2) = 61 then kdF ch (ch p - 97) 1 (p + 3) else kdF ch (ch p - 97) 0 (p + 2))
  else if ch (p + 1) = 62 then (if ch (p + 2) = 61 then kdF ch (ch p - 97) 3 (p + 3) else kdF ch (ch p - 97) 4 (p + 2))
  else (false, 0, 0, 0, p + 1)
/-- the character at a place, behind the end 0 -/
def chF (t : Nat → Int) (n : Int) : Nat → Int := fun i => if (i : Int) < n then t i else 0
