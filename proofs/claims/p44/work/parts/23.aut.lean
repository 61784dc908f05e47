abbrev Aut : Type := Int × Int × Int × (Nat → Nat → Int)
def nrT (T : Nat → Int) : Nat → Int := fun c => if c < 4 ∨ c < 4 + 3 * (T 3).toNat then T c else 0
def abA (n i f : Int) (T : Nat → Nat → Int) : Aut := (n, i, f, fun t => if (t : Int) < n then nrT (T t) else fun _ => 0)
/-- a transition's row: source, letter, target, how many constraints, each: clock, kind, number -/
def TwF (T : Nat → Int) : Prop := (0 ≤ T 0 ∧ T 0 ≤ 3) ∧ (0 ≤ T 1 ∧ T 1 ≤ 2) ∧ (0 ≤ T 2 ∧ T 2 ≤ 3) ∧ (0 ≤ T 3 ∧ T 3 ≤ 4) ∧ ∀ k : Nat, (k : Int) < T 3 → (0 ≤ T (4 + 3 * k) ∧ T (4 + 3 * k) ≤ 2) ∧ (0 ≤ T (5 + 3 * k) ∧ T (5 + 3 * k) ≤ 6) ∧ (0 ≤ T (6 + 3 * k) ∧ T (6 + 3 * k) ≤ 3)
def WfA (A : Aut) : Prop := (0 ≤ A.1 ∧ A.1 ≤ 10) ∧ (0 ≤ A.2.1 ∧ A.2.1 ≤ 15) ∧ (0 ≤ A.2.2.1 ∧ A.2.2.1 ≤ 15) ∧ ∀ t : Nat, (t : Int) < A.1 → TwF (A.2.2.2 t)
/-- the first constraint that a valuation does not satisfy, from the k-th on; none: -1 -/
def blK (T : Nat → Int) (v : Int) : Nat → Nat → Int
  | 0, _ => -1
  | m + 1, k => if hdF (T (5 + 3 * k)) (T (6 + 3 * k)) (ptF v (T (4 + 3 * k))) then blK T v m (k + 1) else k
def blF (T : Nat → Int) (v : Int) : Int := blK T v (T 3).toNat 0
theorem nrT_s {T : Nat → Int} {c : Nat} (h : c < 4) : nrT T c = T c := if_pos (Or.inl h)
theorem blK_nr (T : Nat → Int) (v : Int) (m k : Nat) (h : k + m ≤ (T 3).toNat) : blK (nrT T) v m k = blK T v m k := by
  induction m generalizing k with
  | zero => rfl
  | succ m ih =>
    have e4 : nrT T (4 + 3 * k) = T (4 + 3 * k) := if_pos (Or.inr (by omega))
    have e5 : nrT T (5 + 3 * k) = T (5 + 3 * k) := if_pos (Or.inr (by omega))
    have e6 : nrT T (6 + 3 * k) = T (6 + 3 * k) := if_pos (Or.inr (by omega))
    simp only [blK, e4, e5, e6, ih (k + 1) (by omega)]
theorem blF_nr (T : Nat → Int) (v : Int) : blF (nrT T) v = blF T v := by
  unfold blF
  rw [nrT_s (by decide), blK_nr T v _ 0 (by omega)]
theorem TwF_nr {T : Nat → Int} (h : TwF (nrT T)) : TwF T := by
  obtain ⟨h0, h1, h2, h3, h4⟩ := h
  simp only [nrT_s (show 0 < 4 by decide), nrT_s (show 1 < 4 by decide), nrT_s (show 2 < 4 by decide), nrT_s (show 3 < 4 by decide)] at h0 h1 h2 h3 h4
  refine ⟨h0, h1, h2, h3, fun k hk => ?_⟩
  have q := h4 k hk
  rw [show nrT T (4 + 3 * k) = T (4 + 3 * k) from if_pos (Or.inr (by omega)), show nrT T (5 + 3 * k) = T (5 + 3 * k) from if_pos (Or.inr (by omega)), show nrT T (6 + 3 * k) = T (6 + 3 * k) from if_pos (Or.inr (by omega))] at q
  exact q
