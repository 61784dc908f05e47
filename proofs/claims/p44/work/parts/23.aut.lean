abbrev Aut : Type := Int × Int × Int × (Nat → Nat → Int)
def nrT (T : Nat → Int) : Nat → Int := fun c => if c < 4 ∨ c < 4 + 3 * (T 3).toNat then T c else 0
def abA (n i f : Int) (T : Nat → Nat → Int) : Aut := (n, i, f, fun t => if (t : Int) < n then nrT (T t) else fun _ => 0)
/-- a transition's row: source, letter, target, how many constraints, each: clock, kind, number -/
def TwF (T : Nat → Int) : Prop := (0 ≤ T 0 ∧ T 0 ≤ 3) ∧ (0 ≤ T 1 ∧ T 1 ≤ 2) ∧ (0 ≤ T 2 ∧ T 2 ≤ 3) ∧ (0 ≤ T 3 ∧ T 3 ≤ 4) ∧ ∀ k : Nat, (k : Int) < T 3 → (0 ≤ T (4 + 3 * k) ∧ T (4 + 3 * k) ≤ 2) ∧ (0 ≤ T (5 + 3 * k) ∧ T (5 + 3 * k) ≤ 6) ∧ (0 ≤ T (6 + 3 * k) ∧ T (6 + 3 * k) ≤ 3)
def WfA (A : Aut) : Prop := (0 ≤ A.1 ∧ A.1 ≤ 10) ∧ (0 ≤ A.2.1 ∧ A.2.1 ≤ 15) ∧ (0 ≤ A.2.2.1 ∧ A.2.2.1 ≤ 15) ∧ ∀ t : Nat, (t : Int) < A.1 → TwF (A.2.2.2 t)
/-- the first constraint that a valuation does not satisfy, from the k-th on; none: -1 -/
def blK (T : Nat → Int) (v : Int) : Nat → Nat → Int
  | 0, _ => -1
  | m + 1, k => if hdF (T (5 + 3 * k)) (T (6 + 3 * k)) (ptF v (T (4 + 3 * k))) then blK T v m (k + 1) else k
def blF (T : Nat → Int) (v : Int) : Int := blK T v (T 3).toNat 0
def rT (f : Nat → Int) (s : Int) (t c : Nat) : Int := f (163 * s.toNat + 3 + 16 * t + c)
def autR (f : Nat → Int) (s : Int) : Aut := abA (f (163 * s.toNat + 2)) (f (163 * s.toNat)) (f (163 * s.toNat + 1)) (rT f s)
theorem nrT_s {T : Nat → Int} {c : Nat} (h : c < 4) : nrT T c = T c := if_pos (Or.inl h)
theorem blK_nr (T : Nat → Int) (v : Int) (m k : Nat) (h : k + m ≤ (T 3).toNat) : blK (nrT T) v m k = blK T v m k := by
  induction m generalizing k with
  | zero => rfl
  | succ m ih =>
    have e4 : nrT T (4 + 3 * k) = T (4 + 3 * k) := if_pos (Or.inr (by omega))
    have e5 : nrT T (5 + 3 * k) = T (5 + 3 * k) := if_pos (Or.inr (by omega))
    have e6 : nrT T (6 + 3 * k) = T (6 + 3 * k) := if_pos (Or.inr (by omega))
    simp only [blK, e4, e5, e6, ih (k + 1) (by omega)]
theorem blF_nr (T : Nat → Int) (v : Int) : blF (nrT T) v = blF T v := by
  unfold blF
  rw [nrT_s (by decide), blK_nr T v _ 0 (by omega)]
theorem TwF_nr {T : Nat → Int} (h : TwF (nrT T)) : TwF T := by
  obtain ⟨h0, h1, h2, h3, h4⟩ := h
  simp only [nrT_s (show 0 < 4 by decide), nrT_s (show 1 < 4 by decide), nrT_s (show 2 < 4 by decide), nrT_s (show 3 < 4 by decide)] at h0 h1 h2 h3 h4
  refine ⟨h0, h1, h2, h3, fun k hk => ?_⟩
  have q := h4 k hk
  rw [show nrT T (4 + 3 * k) = T (4 + 3 * k) from if_pos (Or.inr (by omega)), show nrT T (5 + 3 * k) = T (5 + 3 * k) from if_pos (Or.inr (by omega)), show nrT T (6 + 3 * k) = T (6 + 3 * k) from if_pos (Or.inr (by omega))] at q
  exact q
theorem rT_eq (f : Nat → Int) {s E : Int} {t c : Nat} (hs : 0 ≤ s) (h : E = 163 * s + 3 + 16 * t + c) : f E.toNat = rT f s t c := by
  unfold rT
  rw [show E.toNat = 163 * s.toNat + 3 + 16 * t + c by omega]
theorem autR_T {f : Nat → Int} {s : Int} {t : Nat} (h : (t : Int) < (autR f s).1) : (autR f s).2.2.2 t = nrT (rT f s t) := if_pos h
theorem autR_w {f : Nat → Int} {s : Int} (h : WfA (autR f s)) {t : Nat} (ht : (t : Int) < (autR f s).1) : TwF (rT f s t) := by
  have q := h.2.2.2 t ht
  rw [autR_T ht] at q
  exact TwF_nr q
