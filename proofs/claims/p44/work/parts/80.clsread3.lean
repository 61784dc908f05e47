def agN (n : Nat) : Nat → Nat
  | 0 => 0
  | v + 1 => agN n v + (if alF (n : Int) (v : Nat) = true then 1 else 0)
def biN (n j : Nat) : Nat := if n.testBit j = true then 1 else 0
theorem ag_1 (n w y : Nat) (hy : y < 6) (x : Nat) (hx : x ≤ 6) : agN n (36 * w + 6 * y + x) = agN n (36 * w + 6 * y) + biN (n >>> 12) w * (biN (n >>> 6) y * pcK n x) := by
  induction x with
  | zero => simp [pcK]
  | succ x ih =>
    have e1 := ih (by omega)
    rw [← Nat.add_assoc]
    simp only [agN, pcK]
    rw [e1, Nat.mul_add, Nat.mul_add, Nat.add_assoc]
    congr 2
    have ea : alF (n : Int) ((36 * w + 6 * y + x : Nat) : Int) = (n.testBit x && n.testBit (6 + y) && n.testBit (12 + w)) := by
      unfold alF
      rw [Int.toNat_natCast, show (((36 * w + 6 * y + x : Nat) : Int) % 6).toNat = x by omega, show 6 + (((36 * w + 6 * y + x : Nat) : Int) / 6 % 6).toNat = 6 + y by omega, show 12 + (((36 * w + 6 * y + x : Nat) : Int) / 36).toNat = 12 + w by omega]
    rw [ea]
    unfold biN
    rw [Nat.testBit_shiftRight, Nat.testBit_shiftRight]
    cases n.testBit x <;> cases n.testBit (6 + y) <;> cases n.testBit (12 + w) <;> rfl
theorem ag_2 (n w y : Nat) (hy : y ≤ 6) : agN n (36 * w + 6 * y) = agN n (36 * w) + biN (n >>> 12) w * (pcK n 6 * pcK (n >>> 6) y) := by
  induction y with
  | zero => simp [pcK]
  | succ y ih =>
    have e1 := ag_1 n w y (by omega) 6 (by omega)
    rw [show 36 * w + 6 * (y + 1) = 36 * w + 6 * y + 6 by omega, e1, ih (by omega)]
    have e2 : pcK (n >>> 6) (y + 1) = pcK (n >>> 6) y + biN (n >>> 6) y := rfl
    rw [e2, Nat.mul_add, Nat.mul_add, Nat.add_assoc, Nat.mul_comm (biN (n >>> 6) y)]
theorem ag_3 (n w : Nat) : agN n (36 * w) = pcK n 6 * pcK (n >>> 6) 6 * pcK (n >>> 12) w := by
  induction w with
  | zero => simp [pcK, agN]
  | succ w ih =>
    have e1 := ag_2 n w 6 (by omega)
    rw [show 36 * (w + 1) = 36 * w + 6 * 6 by omega, e1, ih]
    have e2 : pcK (n >>> 12) (w + 1) = pcK (n >>> 12) w + biN (n >>> 12) w := rfl
    rw [e2, Nat.mul_add, Nat.mul_comm (biN (n >>> 12) w)]
theorem pcK_63 (n : Nat) (k : Nat) : pcK (n &&& 63) (6 + k) = pcK n 6 := by
  have t : ∀ j, (n &&& 63).testBit j = (n.testBit j && decide (j < 6)) := fun j => by
    rw [Nat.testBit_and, show (63 : Nat) = 2 ^ 6 - 1 from rfl, Nat.testBit_two_pow_sub_one]
  induction k with
  | zero =>
    have : ∀ m, m ≤ 6 → pcK (n &&& 63) m = pcK n m := by
      intro m
      induction m with
      | zero => intro _; rfl
      | succ m ih =>
        intro hm
        simp only [pcK]
        rw [ih (by omega), t m]
        simp [show m < 6 by omega]
    exact this 6 (by omega)
  | succ k ih =>
    show pcK (n &&& 63) (6 + k) + (if (n &&& 63).testBit (6 + k) = true then 1 else 0) = _
    rw [ih, t (6 + k), show decide (6 + k < 6) = false from decide_eq_false (by omega), Bool.and_false, if_neg (by decide), Nat.add_zero]
theorem cn_ag {n : Nat} (h : n < 262144) : cnF (n : Int) = (agN n 216 : Nat) := by
  have e6 := pvShr_n (a := (n : Int)) (k := 6) (by omega) (by omega) (by omega) (by omega)
  have e12 := pvShr_n (a := (n : Int)) (k := 12) (by omega) (by omega) (by omega) (by omega)
  have s6 := shr_le n 6
  have s12 := shr_le n 12
  have t6 : (6 : Int).toNat = 6 := rfl
  have t12 : (12 : Int).toNat = 12 := rfl
  rw [Int.toNat_natCast, t6] at e6
  rw [Int.toNat_natCast, t12] at e12
  have a : ∀ m : Nat, m < 262144 → pcF (pvAnd (m : Int) 63) = (pcK m 6 : Nat) := by
    intro m hm
    have b := pvAnd_n (x := m) (y := 63) (by omega) (by decide)
    have e : pvAnd (m : Int) 63 = ((m &&& 63 : Nat) : Int) := b
    rw [e]
    unfold pcF
    rw [Int.toNat_natCast, pcK_63 m 10]
  unfold cnF
  rw [e6, e12, a n h, a (n >>> 6) (by omega), a (n >>> 12) (by omega), show (216 : Nat) = 36 * 6 from rfl, ag_3]
  simp
theorem cn_sv {T : Nat → Int} {a : Int} (ha : 0 ≤ a ∧ a < 262144) (h : ∀ v : Nat, v < 216 → (alF a v = true ↔ blF T v < 0)) : cnF a = svK T 216 := by
  obtain ⟨n, rfl⟩ : ∃ n : Nat, a = n := ⟨a.toNat, by omega⟩
  rw [cn_ag (by omega)]
  have : ∀ k : Nat, k ≤ 216 → svK T k = (agN n k : Nat) := by
    intro k
    induction k with
    | zero => intro _; rfl
    | succ k ih =>
      intro hk
      simp only [svK, agN]
      rw [ih (by omega)]
      have := h k (by omega)
      by_cases hb : blF T k < 0
      · rw [if_pos hb, if_pos (this.mpr hb)]; omega
      · rw [if_neg hb, if_neg (fun q => hb (this.mp q))]; omega
  exact (this 216 (by omega)).symm
theorem aC_sv {f : Nat → Int} (h : WfC f) {t : Nat} (ht : (t : Int) < f 0) : (0 ≤ cT f t 16 ∧ cT f t 16 < 262144) ∧ cnF (cT f t 16) = svK ((autC f).2.2.2 t) 216 := by
  obtain ⟨a, b⟩ := h.2 t ht
  refine ⟨a, cn_sv a fun v hv => ?_⟩
  rw [b v hv, autC_T ht, blF_nr]
