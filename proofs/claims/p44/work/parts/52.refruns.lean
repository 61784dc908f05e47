theorem rnS_nz {T : Nat → Nat → Int} {a v : Int} {R : Int → Int} (n : Nat) (hR : ∀ t, t < n → 0 ≤ R (T t 2)) (k : Nat) (hk : k ≤ n) (q : Int) : 0 ≤ rnS T a v R k q ∧ (rnS T a v R k q ≠ 0 ↔ ∃ t, t < k ∧ T t 0 = q ∧ R (T t 2) ≠ 0 ∧ T t 1 = a ∧ blF (T t) v < 0) := by
  induction k with
  | zero =>
    refine ⟨Int.le_refl _, fun h => absurd rfl h, ?_⟩
    rintro ⟨t, ht, _⟩
    omega
  | succ k ih =>
    obtain ⟨i1, i2⟩ := ih (by omega)
    have hk0 := hR k (by omega)
    simp only [rnS]
    by_cases e : T k 0 = q ∧ T k 1 = a ∧ blF (T k) v < 0
    · rw [if_pos e]
      refine ⟨by clear i2; omega, ?_⟩
      constructor
      · intro h
        by_cases hz : rnS T a v R k q = 0
        · exact ⟨k, by omega, e.1, by clear i2; omega, e.2⟩
        · obtain ⟨t, h1, h2⟩ := i2.mp hz
          exact ⟨t, by omega, h2⟩
      · rintro ⟨t, h1, h2, h3, h4⟩
        by_cases et : t = k
        · subst et
          clear i2
          omega
        · have h9 := i2.mpr ⟨t, by omega, h2, h3, h4⟩
          clear i2
          omega
    · rw [if_neg e, Int.add_zero]
      refine ⟨i1, i2.trans ?_⟩
      constructor
      · rintro ⟨t, h1, h2⟩; exact ⟨t, by omega, h2⟩
      · rintro ⟨t, h1, h2, h3, h4⟩
        by_cases et : t = k
        · subst et; exact absurd ⟨h2, h4⟩ e
        · exact ⟨t, by omega, h2, h3, h4⟩
theorem hp_rn {A : Aut} (h : WfA A) (d l : Nat → Int) (m : Nat) : ∀ (i : Nat) (q : Int), 0 ≤ q ∧ q ≤ 3 → (btF (hpK A d l m i) q = true ↔ rnB A d l (biF A.2.2.1) m i q ≠ 0) := by
  induction m with
  | zero =>
    intro i q hq
    simp only [hpK, rnB, biF]
    cases btF A.2.2.1 q <;> simp
  | succ m ih =>
    intro i q hq
    have hR : ∀ t, t < A.1.toNat → 0 ≤ rnB A d l (biF A.2.2.1) m (i + 1) (A.2.2.2 t 2) := fun t ht => (rnB_r h d l (fun q _ => biF_r _ _) m (i + 1) _ (h.2.2.2 t (by omega)).2.2.1).1
    simp only [hpK, rnB]
    rw [(rnS_nz A.1.toNat hR A.1.toNat (Nat.le_refl _) q).2]
    unfold saF
    rw [sa_bt (n := A.1.toNat) (fun t ht => (h.2.2.2 t (by omega)).1) _ _ _ hq A.1.toNat (Nat.le_refl _)]
    refine exists_congr fun t => ?_
    constructor
    · rintro ⟨h1, h2, h3, h4⟩
      exact ⟨h1, h2, (ih (i + 1) _ (h.2.2.2 t (by omega)).2.2.1).mp h3, h4⟩
    · rintro ⟨h1, h2, h3, h4⟩
      exact ⟨h1, h2, (ih (i + 1) _ (h.2.2.2 t (by omega)).2.2.1).mpr h3, h4⟩
theorem ru_hp {A : Aut} (h : WfA A) (d l : Nat → Int) (n : Nat) : ruF A d l n A.2.2.1 = 0 ↔ pvAnd A.2.1 (hpK A d l n 0) = 0 := by
  have hr := hpK_r h d l n 0
  rw [zero_bt (and15 h.2.1 hr)]
  have one : ∀ q : Int, 0 ≤ q ∧ q ≤ 3 → 0 ≤ biF A.2.1 q * rnB A d l (biF A.2.2.1) n 0 q ∧ (biF A.2.1 q * rnB A d l (biF A.2.2.1) n 0 q = 0 ↔ btF (pvAnd A.2.1 (hpK A d l n 0)) q = false) := by
    intro q hq
    have r := rnB_r h d l (fun q _ => biF_r A.2.2.1 q) n 0 q hq
    have e := hp_rn h d l n 0 q hq
    rw [bt_and h.2.1 hr hq]
    unfold biF at *
    cases h1 : btF A.2.1 q <;> cases h2 : btF (hpK A d l n 0) q <;> simp [h2] at e ⊢ <;> omega
  have h0 := one 0 (by decide)
  have h1 := one 1 (by decide)
  have h2 := one 2 (by decide)
  have h3 := one 3 (by decide)
  unfold ruF sm4
  simp only [Int.natCast_zero, show ((1 : Nat) : Int) = 1 from rfl, show ((2 : Nat) : Int) = 2 from rfl, show ((3 : Nat) : Int) = 3 from rfl]
  constructor
  · intro e q hq
    rcases (show q = 0 ∨ q = 1 ∨ q = 2 ∨ q = 3 by omega) with rfl | rfl | rfl | rfl
    · exact h0.2.mp (by omega)
    · exact h1.2.mp (by omega)
    · exact h2.2.mp (by omega)
    · exact h3.2.mp (by omega)
  · intro e
    have := h0.2.mpr (e 0 (by decide))
    have := h1.2.mpr (e 1 (by decide))
    have := h2.2.mpr (e 2 (by decide))
    have := h3.2.mpr (e 3 (by decide))
    omega
/-- the counts of runs laid: from each event and state on -/
def rlF (z : pvM) (s : Int) : Prop := ∀ (i m q : Nat), (i : Int) + m = z.1 39 7 → q < 4 → z.2.1 47 (4 * i + q) = rnB (autR (z.1 40) s) (z.1 43) (z.1 44) (biF (autR (z.1 40) s).2.2.1) m i (q : Int)
