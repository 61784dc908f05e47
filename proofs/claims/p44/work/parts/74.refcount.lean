theorem smR_on (k : Nat) : ∀ n : Int, 0 ≤ n → n < smR k → ∃ v : Nat, v < k ∧ okB (v : Int) = true ∧ smR v = n := by
  induction k with
  | zero => intro n h0 h; exact absurd (show n < 0 from h) (by omega)
  | succ k ih =>
    intro n h0 h
    by_cases hn : n < smR k
    · obtain ⟨v, a, b, c⟩ := ih n h0 hn
      exact ⟨v, by omega, b, c⟩
    · by_cases hb : okB (k : Int) = true
      · have e : smR (k + 1) = smR k + 1 := by simp only [smR]; rw [if_pos hb]
        exact ⟨k, by omega, hb, by omega⟩
      · have e : smR (k + 1) = smR k + 0 := by simp only [smR]; rw [if_neg hb]
        omega
/-- the value that the reference numbers n -/
noncomputable def smV (n : Int) : Nat := Classical.epsilon fun v : Nat => v < 216 ∧ okB (v : Int) = true ∧ smR v = n
theorem smV_r {n : Int} (h0 : 0 ≤ n) (h : n < 92) : smV n < 216 ∧ okB (smV n : Int) = true ∧ smR (smV n) = n := by
  have h2 : n < smR 216 := by rw [smR_216]; exact h
  exact Classical.epsilon_spec (smR_on 216 n h0 h2)
theorem smV_e {v : Nat} (hv : v < 216) (hb : okB (v : Int) = true) : smV (smR v) = v := by
  have h := smR_r hv hb
  obtain ⟨a, b, c⟩ := smV_r h.1 h.2
  exact smR_inj a hv b hb c
theorem okV_B {v : Int} (h : okV v) : v.toNat < 216 ∧ okB ((v.toNat : Nat) : Int) = true ∧ ((v.toNat : Nat) : Int) = v := by
  have e : ((v.toNat : Nat) : Int) = v := Int.toNat_of_nonneg h.1.1
  exact ⟨by have := h.1.2; omega, by rw [e, okB_t]; exact h.2, e⟩
theorem okB_V {v : Nat} (hv : v < 216) (hb : okB (v : Int) = true) : okV (v : Int) := ⟨by omega, okB_t.mp hb⟩
/-- the place of the class that the reference's place stands for -/
noncomputable def plX (y : Int) : Int := 16 * (smV (y / 16) : Int) + y % 16
theorem plX_r {y : Int} (hy : 0 ≤ y ∧ y < 1472) : 0 ≤ plX y ∧ plX y < 3456 ∧ plX y / 16 = smV (y / 16) ∧ plX y % 16 = y % 16 := by
  obtain ⟨a, _, _⟩ := smV_r (n := y / 16) (by omega) (by omega)
  unfold plX
  omega
theorem plX_e {v s : Int} (hv : okV v) (hs : 0 ≤ s ∧ s ≤ 15) : plX (16 * smR v.toNat + s) = 16 * v + s := by
  obtain ⟨a, b, c⟩ := okV_B hv
  have h := smR_r a b
  unfold plX
  rw [show (16 * smR v.toNat + s) / 16 = smR v.toNat by omega, smV_e a b]
  omega
def sdA (f : Int → Int → Int) (a : Int) : Nat → Int
  | 0 => 0
  | d + 1 => sdA f a d + f a (d : Nat)
theorem sdA_s (f : Int → Int → Int) (D : Nat) : sdK f D = sdA f 0 D + sdA f 1 D + sdA f 2 D := by
  induction D with
  | zero => rfl
  | succ D ih => simp only [sdK, sdA]; rw [ih]; omega
theorem smN_q {c : Nat → Int} {n k : Nat} (hk : k < 10) (h0 : ∀ i, i < n → 0 ≤ c i) (h1 : smN c (fun _ => 1) n ≤ 15 ^ k) : ∀ i, i < n → 0 ≤ c i ∧ c i ≤ 576650390625 := by
  have h2 : (15 : Int) ^ k ≤ 15 ^ 10 := by exact_mod_cast Nat.pow_le_pow_right (n := 15) (by decide) (by omega)
  have h3 : (15 : Int) ^ 10 = 576650390625 := by decide
  intro i hi
  have := (smN_le (c := c) n h0).2 i hi
  have := h0 i hi
  omega
theorem smN_one {c c' : Nat → Int} {W : Int → Int} {j n : Nat} (hj : j < n) (h0 : ∀ i, i < n → c i = 0) (h : ∀ i, c' i = if i = j then 1 else c i) : smN c' W n = W (j : Nat) := by
  have e : c' = fun k => if k = j then c j + 1 else c k := by
    funext k
    rw [h k, h0 j hj]
    rfl
  rw [e, smN_u, smN_0 n h0, if_pos hj]
  omega
