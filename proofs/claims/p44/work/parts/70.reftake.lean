/-- a search done that has found level F -/
def shF (A B : Aut) (z : pvM) (Qs : List Int) (F : Nat) : Prop := rqF A B z Qs ∧ (0 < Qs.length ∧ ndF Qs 0 = c0F A B) ∧ (∀ j k, j ≤ k → k < Qs.length → lvN A B (ndF Qs j) ≤ lvN A B (ndF Qs k)) ∧ z.1 39 27 = F ∧ F < 23552 ∧ ∀ n, n ≤ F → ∀ c, rcK A B n c → c ∈ Qs
/-- the costs of the levels up to F -/
def rcP (A B : Aut) (z : pvM) (Qs : List Int) (F : Nat) : Prop := ∀ c ∈ Qs, lvN A B c ≤ F → z.1 54 (ndC c).toNat = coK A B F (F - lvN A B c) c
theorem sh_lq {A B : Aut} {z : pvM} {Qs : List Int} {F n : Nat} {x : Int} (h : shF A B z Qs F) (hn : n ≤ F) : lqF A B n x ↔ x ∈ Qs ∧ lvN A B x = n := by
  obtain ⟨h1, -, -, -, -, h6⟩ := h
  constructor
  · intro hl
    exact ⟨h6 n hn x hl.1, lvN_eq hl⟩
  · rintro ⟨hm, e⟩
    rw [← e]
    exact (h1.2.2.2.2 x hm).2
theorem sh_m {A B : Aut} {z z' : pvM} {Qs : List Int} {F : Nat} (h : shF A B z Qs F) (h26 : z'.1 39 26 = z.1 39 26) (h27 : z'.1 39 27 = z.1 39 27) (h53 : z'.1 53 = z.1 53) (h55 : z'.1 55 = z.1 55) : shF A B z' Qs F := by
  unfold shF rqF at h ⊢
  rw [h26, h27, h53, h55]
  exact h
