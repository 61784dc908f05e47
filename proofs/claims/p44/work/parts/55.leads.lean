def ldK (f : Nat → Int) (s : Nat) (T : Nat → Nat → Int) (k : Nat) : Prop := ∀ a v q : Nat, a < 3 → v < 216 → q < 4 → (0 ≤ f (2592 * s + 864 * a + 4 * v + q) ∧ f (2592 * s + 864 * a + 4 * v + q) ≤ 15) ∧ ∀ r : Nat, r < 4 → (btF (f (2592 * s + 864 * a + 4 * v + q)) (r : Int) = true ↔ ∃ t, t < k ∧ T t 0 = q ∧ T t 2 = r ∧ T t 1 = a ∧ blF (T t) v < 0)
def ldP (f : Nat → Int) (s : Int) (A : Aut) : Prop := ldK f s.toNat A.2.2.2 A.1.toNat
theorem or2F : ∀ (x y : Fin 16), (0 ≤ pvOr ((x : Nat) : Int) ((y : Nat) : Int) ∧ pvOr ((x : Nat) : Int) ((y : Nat) : Int) ≤ 15) ∧ ∀ q : Fin 4, btF (pvOr ((x : Nat) : Int) ((y : Nat) : Int)) ((q : Nat) : Int) = (btF ((x : Nat) : Int) ((q : Nat) : Int) || btF ((y : Nat) : Int) ((q : Nat) : Int)) := by decide +kernel
theorem or2 {x y : Int} (hx : 0 ≤ x ∧ x ≤ 15) (hy : 0 ≤ y ∧ y ≤ 15) : (0 ≤ pvOr x y ∧ pvOr x y ≤ 15) ∧ ∀ q : Int, 0 ≤ q ∧ q ≤ 3 → btF (pvOr x y) q = (btF x q || btF y q) := by
  obtain ⟨a, rfl⟩ := fin_of (a := x) (n := 16) (by omega)
  obtain ⟨b, rfl⟩ := fin_of (a := y) (n := 16) (by omega)
  refine ⟨(or2F a b).1, fun q hq => ?_⟩
  obtain ⟨c, rfl⟩ := fin_of (a := q) (n := 4) (by omega)
  exact (or2F a b).2 c
theorem or0F : ∀ x : Fin 16, pvOr ((x : Nat) : Int) 0 = ((x : Nat) : Int) := by decide +kernel
theorem or0 {x : Int} (hx : 0 ≤ x ∧ x ≤ 15) : pvOr x 0 = x := by
  obtain ⟨a, rfl⟩ := fin_of (a := x) (n := 16) (by omega)
  exact or0F a
/-- of one transition more, laid for the first m valuations -/
def lvF (f f' : Nat → Int) (s : Nat) (T : Nat → Int) (m : Nat) : Prop := ∀ s' a v q : Nat, s' < 2 → a < 3 → v < 216 → q < 4 → f' (2592 * s' + 864 * a + 4 * v + q) = if (s' = s ∧ T 1 = a ∧ T 0 = q ∧ v < m) ∧ blF T v < 0 then pvOr (f (2592 * s' + 864 * a + 4 * v + q)) (pvShl 1 (T 2)) else f (2592 * s' + 864 * a + 4 * v + q)
theorem ldK_s {f f' : Nat → Int} {s s' : Nat} {T T' : Nat → Nat → Int} {k k' : Nat} (hs' : s' < 2) (h : ldK f s' T' k') (hv : lvF f f' s (T k) 216) (h2 : 0 ≤ T k 2 ∧ T k 2 ≤ 3) (hk : s' = s → T' = T ∧ k' = k) : ldK f' s' T' (if s' = s then k + 1 else k') := by
  intro a v q ha hv' hq
  obtain ⟨b1, b2⟩ := h a v q ha hv' hq
  have e := hv s' a v q hs' ha hv' hq
  by_cases es : s' = s
  · obtain ⟨rfl, rfl⟩ := hk es
    rw [if_pos es]
    by_cases e1 : (s' = s ∧ T' k' 1 = a ∧ T' k' 0 = q ∧ v < 216) ∧ blF (T' k') v < 0
    · rw [if_pos e1] at e
      rw [e]
      refine ⟨or15 b1 h2, fun r hr => ?_⟩
      rw [bt_or b1 h2 (by omega), Bool.or_eq_true, b2 r hr, decide_eq_true_iff]
      constructor
      · rintro (⟨t, ht, h9⟩ | h9)
        · exact ⟨t, by omega, h9⟩
        · exact ⟨k', by omega, e1.1.2.2.1, by omega, e1.1.2.1, e1.2⟩
      · rintro ⟨t, ht, t0, t2, h9⟩
        by_cases et : t = k'
        · subst et; exact Or.inr (by omega)
        · exact Or.inl ⟨t, by omega, t0, t2, h9⟩
    · rw [if_neg e1] at e
      rw [e]
      refine ⟨b1, fun r hr => ?_⟩
      rw [b2 r hr]
      constructor
      · rintro ⟨t, ht, h9⟩; exact ⟨t, by omega, h9⟩
      · rintro ⟨t, ht, t0, t2, t1, tb⟩
        by_cases et : t = k'
        · subst et; exact absurd ⟨⟨es, t1, t0, hv'⟩, tb⟩ e1
        · exact ⟨t, by omega, t0, t2, t1, tb⟩
  · rw [if_neg es]
    rw [if_neg (fun q => es q.1.1)] at e
    rw [e]
    exact ⟨b1, b2⟩
