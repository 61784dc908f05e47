/-! the class's automaton: a transition added -/
theorem nw_bit : ∀ (c : Fin 3) (s : Fin 64) (e : Fin 3) (x : Fin 6), (262143 - 63 * 64 ^ c.val + s.val * 64 ^ c.val).testBit (6 * e.val + x.val) = if e.val = c.val then s.val.testBit x.val else true := by decide +kernel
theorem nw_al {a c s v : Int} (ha : 0 ≤ a ∧ a < 262144) (hc : 0 ≤ c ∧ c ≤ 2) (hs : 0 ≤ s ∧ s ≤ 63) (hv : 0 ≤ v ∧ v < 216) : alF (nwF a c s) v = (alF a v && btF s (ptF v c)) := by
  obtain ⟨n, rfl⟩ : ∃ n : Nat, a = n := ⟨a.toNat, by omega⟩
  obtain ⟨k, rfl⟩ := fin_of (a := c) (n := 3) (by omega)
  obtain ⟨m, rfl⟩ := fin_of (a := s) (n := 64) (by omega)
  have b0 := nw_bit k m 0 ⟨(v % 6).toNat, by omega⟩
  have b1 := nw_bit k m 1 ⟨(v / 6 % 6).toNat, by omega⟩
  have b2 := nw_bit k m 2 ⟨(v / 36).toNat, by omega⟩
  simp only [Nat.mul_zero, Nat.zero_add, Nat.mul_one, show ((0 : Fin 3) : Nat) = 0 from rfl, show ((1 : Fin 3) : Nat) = 1 from rfl, show ((2 : Fin 3) : Nat) = 2 from rfl, show 6 * 2 = 12 from rfl] at b0 b1 b2
  simp only [alF, nwF, btF, ptF, Int.toNat_natCast, Nat.testBit_and, b0, b1, b2]
  obtain ⟨k, hk⟩ := k
  simp only at b0 b1 b2 ⊢
  have : k = 0 ∨ k = 1 ∨ k = 2 := by omega
  rcases this with rfl | rfl | rfl <;> simp <;> ac_rfl
theorem al_any {v : Int} (hv : 0 ≤ v ∧ v < 216) : alF 262143 v = true := by
  have q : ∀ j : Nat, j < 18 → (262143 : Nat).testBit j = true := by decide
  simp only [alF, show (262143 : Int).toNat = 262143 from rfl, q (v % 6).toNat (by omega), q (6 + (v / 6 % 6).toNat) (by omega), q (12 + (v / 36).toNat) (by omega)]
  rfl
/-- the first k constraints hold -/
def hoK (T : Nat → Int) (v : Int) (k : Nat) : Prop := ∀ j, j < k → hdF (T (5 + 3 * j)) (T (6 + 3 * j)) (ptF v (T (4 + 3 * j))) = true
theorem blK_iff (T : Nat → Int) (v : Int) (m k : Nat) : blK T v m k < 0 ↔ ∀ j, k ≤ j → j < k + m → hdF (T (5 + 3 * j)) (T (6 + 3 * j)) (ptF v (T (4 + 3 * j))) = true := by
  induction m generalizing k with
  | zero => exact ⟨fun _ j h1 h2 => by omega, fun _ => by show (-1 : Int) < 0; decide⟩
  | succ m ih =>
    simp only [blK]
    by_cases e : hdF (T (5 + 3 * k)) (T (6 + 3 * k)) (ptF v (T (4 + 3 * k))) = true
    · rw [if_pos e, ih]
      constructor
      · intro h j h1 h2
        by_cases q : j = k
        · rw [q]; exact e
        · exact h j (by omega) (by omega)
      · intro h j h1 h2
        exact h j (by omega) (by omega)
    · rw [if_neg e]
      constructor
      · intro h; omega
      · intro h; exact absurd (h k (Nat.le_refl _) (by omega)) e
theorem blF_iff (T : Nat → Int) (v : Int) : blF T v < 0 ↔ hoK T v (T 3).toNat := by
  unfold blF hoK
  rw [blK_iff]
  constructor
  · intro h j hj; exact h j (Nat.zero_le _) (by omega)
  · intro h j _ hj; exact h j (by omega)
