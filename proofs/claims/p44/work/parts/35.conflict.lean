theorem pcK_pos (n k : Nat) : 0 < pcK n k ↔ ∃ j, j < k ∧ n.testBit j = true := by
  induction k with
  | zero => exact ⟨fun h => absurd h (Nat.lt_irrefl 0), fun ⟨j, h, _⟩ => absurd h (Nat.not_lt_zero j)⟩
  | succ k ih =>
    simp only [pcK]
    constructor
    · intro h
      by_cases e : n.testBit k = true
      · exact ⟨k, Nat.lt_succ_self k, e⟩
      · rw [if_neg e, Nat.add_zero] at h
        obtain ⟨j, h1, h2⟩ := ih.mp h
        exact ⟨j, by omega, h2⟩
    · rintro ⟨j, h1, h2⟩
      by_cases e : j = k
      · rw [e] at h2; rw [if_pos h2]; omega
      · have := ih.mpr ⟨j, by omega, h2⟩; omega
theorem pc63 {n : Nat} (h : n ≤ 2147483647) : 0 < pcF (pvAnd (n : Int) 63) ↔ ∃ j, j < 6 ∧ n.testBit j = true := by
  have b := pvAnd_n (x := n) (y := 63) h (by decide)
  have e : pvAnd (n : Int) 63 = ((n &&& 63 : Nat) : Int) := b
  rw [e]
  unfold pcF
  rw [Int.toNat_natCast]
  have q := pcK_pos (n &&& 63) 16
  have t : ∀ j, (n &&& 63).testBit j = (n.testBit j && decide (j < 6)) := fun j => by
    rw [Nat.testBit_and, show (63 : Nat) = 2 ^ 6 - 1 from rfl, Nat.testBit_two_pow_sub_one]
  constructor
  · intro h
    obtain ⟨j, _, h2⟩ := q.mp (by omega)
    rw [t, Bool.and_eq_true, decide_eq_true_eq] at h2
    exact ⟨j, h2.2, h2.1⟩
  · rintro ⟨j, h1, h2⟩
    have := q.mpr ⟨j, by omega, by rw [t, h2]; simpa using h1⟩
    omega
theorem mul_pos3 {a b c : Int} (ha : 0 ≤ a) (hb : 0 ≤ b) (hc : 0 ≤ c) : 0 < a * b * c ↔ 0 < a ∧ 0 < b ∧ 0 < c := by
  constructor
  · intro h
    refine ⟨?_, ?_, ?_⟩
    · rcases Int.lt_or_eq_of_le ha with e | e
      · exact e
      · rw [← e, Int.zero_mul, Int.zero_mul] at h; omega
    · rcases Int.lt_or_eq_of_le hb with e | e
      · exact e
      · rw [← e, Int.mul_zero, Int.zero_mul] at h; omega
    · rcases Int.lt_or_eq_of_le hc with e | e
      · exact e
      · rw [← e, Int.mul_zero] at h; omega
  · rintro ⟨h1, h2, h3⟩
    exact Int.mul_pos (Int.mul_pos h1 h2) h3
theorem cn_pos {a : Int} (h : 0 ≤ a ∧ a < 262144) : 0 < cnF a ↔ ∃ v : Nat, v < 216 ∧ alF a v = true := by
  obtain ⟨n, rfl⟩ : ∃ n : Nat, a = n := ⟨a.toNat, by omega⟩
  unfold cnF
  rw [mul_pos3 (pcF_r _).1 (pcF_r _).1 (pcF_r _).1]
  have e6 := pvShr_n (a := (n : Int)) (k := 6) (by omega) (by omega) (by omega) (by omega)
  have e12 := pvShr_n (a := (n : Int)) (k := 12) (by omega) (by omega) (by omega) (by omega)
  have s6 := shr_le n 6
  have s12 := shr_le n 12
  have t6 : (6 : Int).toNat = 6 := rfl
  have t12 : (12 : Int).toNat = 12 := rfl
  rw [Int.toNat_natCast, t6] at e6
  rw [Int.toNat_natCast, t12] at e12
  rw [e6, e12, pc63 (n := n) (by omega), pc63 (n := n >>> 6) (Nat.le_trans s6 (by omega)), pc63 (n := n >>> 12) (Nat.le_trans s12 (by omega))]
  simp only [alF, Int.toNat_natCast, Nat.testBit_shiftRight, Bool.and_eq_true]
  constructor
  · rintro ⟨⟨x, hx, h1⟩, ⟨y, hy, h2⟩, ⟨w, hw, h3⟩⟩
    refine ⟨x + 6 * y + 36 * w, by omega, ⟨?_, ?_⟩, ?_⟩
    · rw [show (((x + 6 * y + 36 * w : Nat) : Int) % 6).toNat = x by omega]; exact h1
    · rw [show 6 + (((x + 6 * y + 36 * w : Nat) : Int) / 6 % 6).toNat = 6 + y by omega]; exact h2
    · rw [show 12 + (((x + 6 * y + 36 * w : Nat) : Int) / 36).toNat = 12 + w by omega]; exact h3
  · rintro ⟨v, hv, ⟨h1, h2⟩, h3⟩
    exact ⟨⟨_, by omega, h1⟩, ⟨_, by omega, h2⟩, ⟨_, by omega, h3⟩⟩
theorem al_and {a b v : Int} (ha : 0 ≤ a ∧ a < 262144) (hb : 0 ≤ b ∧ b < 262144) : alF (pvAnd a b) v = (alF a v && alF b v) := by
  obtain ⟨n, rfl⟩ : ∃ n : Nat, a = n := ⟨a.toNat, by omega⟩
  obtain ⟨m, rfl⟩ : ∃ m : Nat, b = m := ⟨b.toNat, by omega⟩
  rw [pvAnd_n (by omega) (by omega)]
  simp only [alF, Int.toNat_natCast, Nat.testBit_and]
  ac_rfl
theorem cl_iff {f : Nat → Int} (h : WfC f) {t u : Nat} (ht : (t : Int) < f 0) (hu : (u : Int) < f 0) : clF (autC f) t u ↔ cT f t 0 = cT f u 0 ∧ cT f t 1 = cT f u 1 ∧ 0 < cnF (pvAnd (cT f t 16) (cT f u 16)) := by
  have e := autC_T (f := f) (t := t) ht
  have g := autC_T (f := f) (t := u) hu
  obtain ⟨a1, b1⟩ := h.2 t ht
  obtain ⟨a2, b2⟩ := h.2 u hu
  have r : 0 ≤ pvAnd (cT f t 16) (cT f u 16) ∧ pvAnd (cT f t 16) (cT f u 16) < 262144 := by
    rw [pvAnd_nat a1.1 (by omega) a2.1 (by omega)]
    have : (cT f t 16).toNat &&& (cT f u 16).toNat ≤ (cT f t 16).toNat := Nat.and_le_left
    omega
  unfold clF
  rw [e, g, cn_pos r]
  simp only [nrT_s (show 0 < 4 by decide), nrT_s (show 1 < 4 by decide), blF_nr]
  have k : ∀ v : Nat, (v < 216 ∧ alF (pvAnd (cT f t 16) (cT f u 16)) v = true) ↔ (v < 216 ∧ blF (cT f t) v < 0 ∧ blF (cT f u) v < 0) := fun v => by
    rw [al_and a1 a2, Bool.and_eq_true]
    constructor
    · rintro ⟨hv, x, y⟩
      exact ⟨hv, (b1 v hv).mp x, (b2 v hv).mp y⟩
    · rintro ⟨hv, x, y⟩
      exact ⟨hv, (b1 v hv).mpr x, (b2 v hv).mpr y⟩
  simp only [k]
