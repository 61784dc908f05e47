/-- a state marked or not -/
def msF (x q on : Int) : Int := if on = 0 then pvAnd x (pvXor (pvShl 1 q) (-1)) else pvOr x (pvShl 1 q)
theorem msF_t : ∀ (x : Fin 16) (q : Fin 4) (on : Fin 2), msF ((x : Nat) : Int) ((q : Nat) : Int) ((on : Nat) : Int) = (if (if btF ((x : Nat) : Int) ((q : Nat) : Int) then 1 else 0) = ((on : Nat) : Int) then ((x : Nat) : Int) else pvXor ((x : Nat) : Int) (pvShl 1 ((q : Nat) : Int))) ∧ 0 ≤ msF ((x : Nat) : Int) ((q : Nat) : Int) ((on : Nat) : Int) ∧ msF ((x : Nat) : Int) ((q : Nat) : Int) ((on : Nat) : Int) ≤ 15 := by
  decide +kernel
theorem msF_eq {x q on : Int} (hx : 0 ≤ x ∧ x ≤ 15) (hq : 0 ≤ q ∧ q ≤ 3) (ho : on = 0 ∨ on = 1) : msF x q on = (if (if btF x q then 1 else 0) = on then x else pvXor x (pvShl 1 q)) ∧ 0 ≤ msF x q on ∧ msF x q on ≤ 15 := by
  obtain ⟨a, rfl⟩ := fin_of (a := x) (n := 16) (by omega)
  obtain ⟨b, rfl⟩ := fin_of (a := q) (n := 4) (by omega)
  obtain ⟨c, rfl⟩ := fin_of (a := on) (n := 2) (by omega)
  exact msF_t a b c
