def rnS (T : Nat → Nat → Int) (a v : Int) (R : Int → Int) : Nat → Int → Int
  | 0, _ => 0
  | k + 1, q => rnS T a v R k q + (if T k 0 = q ∧ T k 1 = a ∧ blF (T k) v < 0 then R (T k 2) else 0)
def rnB (A : Aut) (d l : Nat → Int) (E : Int → Int) : Nat → Nat → Int → Int
  | 0, _, q => E q
  | m + 1, i, q => rnS A.2.2.2 (l i) (psF (vaF d l i) (d i)) (rnB A d l E m (i + 1)) A.1.toNat q
def sm4 (c : Nat → Int) (R : Int → Int) : Int := c 0 * R 0 + c 1 * R 1 + c 2 * R 2 + c 3 * R 3
/-- 1 for a state in a set, else 0 -/
def biF (s q : Int) : Int := if btF s q then 1 else 0
def ruF (A : Aut) (d l : Nat → Int) (n : Nat) (e : Int) : Int := sm4 (fun q => biF A.2.1 (q : Nat)) (rnB A d l (biF e) n 0)
theorem rnS_r {T : Nat → Nat → Int} {a v : Int} {R : Int → Int} {B : Int} (hB : 0 ≤ B) (n : Nat) (hT : ∀ t : Nat, t < n → 0 ≤ T t 2 ∧ T t 2 ≤ 3) (hR : ∀ q : Int, 0 ≤ q ∧ q ≤ 3 → 0 ≤ R q ∧ R q ≤ B) (k : Nat) (hk : k ≤ n) (q : Int) : 0 ≤ rnS T a v R k q ∧ rnS T a v R k q ≤ k * B := by
  induction k with
  | zero => simp [rnS]
  | succ k ih =>
    have h1 := ih (by omega)
    have h2 := hR _ (hT k (by omega))
    have e : ((k + 1 : Nat) : Int) * B = k * B + B := by rw [Int.natCast_add, Int.add_mul]; simp
    simp only [rnS]
    rw [e]
    split <;> omega
theorem rnB_r {A : Aut} (h : WfA A) (d l : Nat → Int) {E : Int → Int} (hE : ∀ q : Int, 0 ≤ q ∧ q ≤ 3 → 0 ≤ E q ∧ E q ≤ 1) (m : Nat) : ∀ (i : Nat) (q : Int), 0 ≤ q ∧ q ≤ 3 → 0 ≤ rnB A d l E m i q ∧ rnB A d l E m i q ≤ 10 ^ m := by
  induction m with
  | zero => intro i q hq; exact hE q hq
  | succ m ih =>
    intro i q hq
    have hp : (0 : Int) ≤ 10 ^ m := Int.pow_nonneg (by decide)
    have h1 := rnS_r (T := A.2.2.2) (a := l i) (v := psF (vaF d l i) (d i)) hp A.1.toNat (fun t ht => (h.2.2.2 t (by omega)).2.2.1) (fun q hq => ih (i + 1) q hq) A.1.toNat (Nat.le_refl _) q
    have hn := h.1
    simp only [rnB]
    refine ⟨h1.1, Int.le_trans h1.2 ?_⟩
    rw [Int.pow_succ, Int.mul_comm]
    exact Int.mul_le_mul_of_nonneg_left (by omega) hp
theorem biF_r (s q : Int) : 0 ≤ biF s q ∧ biF s q ≤ 1 := by
  unfold biF
  split <;> omega
theorem sm4_b {c : Nat → Int} {R : Int → Int} {B : Int} (hc : ∀ q : Nat, q < 4 → 0 ≤ c q ∧ c q ≤ 1) (hR : ∀ q : Int, 0 ≤ q ∧ q ≤ 3 → 0 ≤ R q ∧ R q ≤ B) : 0 ≤ sm4 c R ∧ sm4 c R ≤ 4 * B := by
  have one : ∀ (x y : Int), 0 ≤ x ∧ x ≤ 1 → 0 ≤ y ∧ y ≤ B → 0 ≤ x * y ∧ x * y ≤ B := by
    intro x y hx hy
    rcases (show x = 0 ∨ x = 1 by omega) with rfl | rfl
    · rw [Int.zero_mul]; omega
    · rw [Int.one_mul]; omega
  have h0 := one (c 0) (R 0) (hc 0 (by decide)) (hR 0 (by decide))
  have h1 := one (c 1) (R 1) (hc 1 (by decide)) (hR 1 (by decide))
  have h2 := one (c 2) (R 2) (hc 2 (by decide)) (hR 2 (by decide))
  have h3 := one (c 3) (R 3) (hc 3 (by decide)) (hR 3 (by decide))
  unfold sm4
  omega
theorem ruF_r {A : Aut} (h : WfA A) (d l : Nat → Int) {n : Nat} (hn : n ≤ 10) (e : Int) : 0 ≤ ruF A d l n e ∧ ruF A d l n e ≤ 40000000000 := by
  have h1 := sm4_b (c := fun q => biF A.2.1 (q : Nat)) (R := rnB A d l (biF e) n 0) (B := 10 ^ n) (fun q _ => biF_r _ _) (fun q hq => rnB_r h d l (fun q _ => biF_r _ _) n 0 q hq)
  have h2 : (10 : Int) ^ n ≤ 10 ^ 10 := by exact_mod_cast Nat.pow_le_pow_right (n := 10) (by decide) hn
  have h3 : (10 : Int) ^ 10 = 10000000000 := by decide
  unfold ruF
  omega
theorem sm4_S {T : Nat → Nat → Int} {a v : Int} {R : Int → Int} (c : Nat → Int) (k : Nat) (hT : 0 ≤ T k 0 ∧ T k 0 ≤ 3) :
    sm4 c (rnS T a v R (k + 1)) = sm4 c (rnS T a v R k) + (if T k 1 = a ∧ blF (T k) v < 0 then c (T k 0).toNat * R (T k 2) else 0) := by
  unfold sm4
  simp only [rnS]
  rcases (show T k 0 = 0 ∨ T k 0 = 1 ∨ T k 0 = 2 ∨ T k 0 = 3 by omega) with e | e | e | e <;> rw [e] <;> by_cases h : T k 1 = a ∧ blF (T k) v < 0 <;> simp [h] <;> (try (rw [Int.mul_add]; omega))
theorem sm4_u {c : Nat → Int} {R : Int → Int} {j : Nat} {x : Int} (hj : j < 4) : sm4 (fun k => if k = j then c j + x else c k) R = sm4 c R + x * R j := by
  unfold sm4
  rcases (show j = 0 ∨ j = 1 ∨ j = 2 ∨ j = 3 by omega) with rfl | rfl | rfl | rfl <;> simp [Int.add_mul] <;> omega

