theorem brK_ds {A : Aut} (hw : WfA A) {s : Int} (hs : s ∈ dsF A) {a : Int} (ha : 0 ≤ a ∧ a ≤ 2) {k : Nat} (hk : k ≤ 216) {x : Int} (hx : x ∈ brK A s a k) : x ∈ dsF A := by
  obtain ⟨v, h1, h2⟩ := brK_m.mp hx
  rw [← h2]
  exact dsF_mc hw hs ha (by omega)
theorem ixF_inj {L : List Int} {x y : Int} (hx : x ∈ L) (hy : y ∈ L) (e : ixF L x = ixF L y) : x = y := by
  have h1 := ixF_r hx
  have h2 := ixF_r hy
  rw [← h1.2.2, ← h2.2.2, e]
