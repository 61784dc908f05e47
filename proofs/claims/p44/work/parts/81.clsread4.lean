theorem one_b : ∀ x : Fin 16, pcF ((x : Nat) : Int) = 1 ↔ (((x : Nat) : Int) ≠ 0 ∧ pvAnd ((x : Nat) : Int) (((x : Nat) : Int) - 1) = 0) := by decide +kernel
theorem dt_i {f : Nat → Int} (h : WfC f) : dtF (autC f) ↔ pcF (f 1) = 1 ∧ ∀ t u : Nat, (t : Int) < f 0 → u < t → ¬ clF (autC f) t u := by
  obtain ⟨x, hx⟩ := fin_of (a := f 1) (n := 16) (by have : 0 ≤ f 1 ∧ f 1 ≤ 15 := h.1.2.1; omega)
  have e := one_b x
  rw [← hx] at e
  rw [e]
  exact Iff.rfl
