theorem bt_orF : ∀ (x : Fin 16) (r : Fin 4) (q : Fin 4), btF (pvOr ((x : Nat) : Int) (pvShl 1 ((r : Nat) : Int))) ((q : Nat) : Int) = (btF ((x : Nat) : Int) ((q : Nat) : Int) || decide (((q : Nat) : Int) = ((r : Nat) : Int))) := by decide +kernel
theorem bt_or {x r q : Int} (hx : 0 ≤ x ∧ x ≤ 15) (hr : 0 ≤ r ∧ r ≤ 3) (hq : 0 ≤ q ∧ q ≤ 3) : btF (pvOr x (pvShl 1 r)) q = (btF x q || decide (q = r)) := by
  obtain ⟨a, rfl⟩ := fin_of (a := x) (n := 16) (by omega)
  obtain ⟨b, rfl⟩ := fin_of (a := r) (n := 4) (by omega)
  obtain ⟨c, rfl⟩ := fin_of (a := q) (n := 4) (by omega)
  exact bt_orF a b c
