def sbK (T : Nat → Nat → Int) (set a v : Int) : Nat → Int
  | 0 => 0
  | k + 1 => if btF set (T k 0) = true ∧ T k 1 = a ∧ blF (T k) v < 0 then pvOr (sbK T set a v k) (pvShl 1 (T k 2)) else sbK T set a v k
def sbF (A : Aut) (set a v : Int) : Int := sbK A.2.2.2 set a v A.1.toNat
theorem or15F : ∀ (x : Fin 16) (r : Fin 4), 0 ≤ pvOr ((x : Nat) : Int) (pvShl 1 ((r : Nat) : Int)) ∧ pvOr ((x : Nat) : Int) (pvShl 1 ((r : Nat) : Int)) ≤ 15 := by decide +kernel
theorem or15 {x r : Int} (hx : 0 ≤ x ∧ x ≤ 15) (hr : 0 ≤ r ∧ r ≤ 3) : 0 ≤ pvOr x (pvShl 1 r) ∧ pvOr x (pvShl 1 r) ≤ 15 := by
  obtain ⟨a, rfl⟩ := fin_of (a := x) (n := 16) (by omega)
  obtain ⟨b, rfl⟩ := fin_of (a := r) (n := 4) (by omega)
  exact or15F a b
theorem sbK_r {T : Nat → Nat → Int} {n : Nat} (h : ∀ t, t < n → 0 ≤ T t 2 ∧ T t 2 ≤ 3) (set a v : Int) (k : Nat) (hk : k ≤ n) : 0 ≤ sbK T set a v k ∧ sbK T set a v k ≤ 15 := by
  induction k with
  | zero => exact ⟨Int.le_refl 0, by show (0 : Int) ≤ 15; decide⟩
  | succ k ih =>
    simp only [sbK]
    split
    · exact or15 (ih (by omega)) (h k (by omega))
    · exact ih (by omega)
theorem sbF_r {A : Aut} (h : WfA A) (set a v : Int) : 0 ≤ sbF A set a v ∧ sbF A set a v ≤ 15 :=
  sbK_r (n := A.1.toNat) (fun t ht => (h.2.2.2 t (by omega)).2.2.1) set a v _ (Nat.le_refl _)
/-- a word: delays and letters; the valuation before its k-th event's delay -/
def vaF (d l : Nat → Int) : Nat → Int
  | 0 => 215
  | k + 1 => rsF (psF (vaF d l k) (d k)) (l k)
def WdF (n : Int) (d l : Nat → Int) : Prop := (0 ≤ n ∧ n ≤ 10) ∧ ∀ k : Nat, (k : Int) < n → (0 ≤ d k ∧ d k ≤ 4) ∧ 0 ≤ l k ∧ l k ≤ 2
theorem vaF_r {n : Int} {d l : Nat → Int} (h : WdF n d l) (k : Nat) (hk : (k : Int) ≤ n) : 0 ≤ vaF d l k ∧ vaF d l k < 216 := by
  induction k with
  | zero => exact ⟨by show (0 : Int) ≤ 215; decide, by show (215 : Int) < 216; decide⟩
  | succ k ih =>
    have h1 := ih (by omega)
    have h2 := h.2 k (by omega)
    exact rsF_r (psF_r (by omega))
