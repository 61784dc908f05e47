def sbK (T : Nat → Nat → Int) (set a v : Int) : Nat → Int
  | 0 => 0
  | k + 1 => if btF set (T k 0) = true ∧ T k 1 = a ∧ blF (T k) v < 0 then pvOr (sbK T set a v k) (pvShl 1 (T k 2)) else sbK T set a v k
def sbF (A : Aut) (set a v : Int) : Int := sbK A.2.2.2 set a v A.1.toNat
theorem or15F : ∀ (x : Fin 16) (r : Fin 4), 0 ≤ pvOr ((x : Nat) : Int) (pvShl 1 ((r : Nat) : Int)) ∧ pvOr ((x : Nat) : Int) (pvShl 1 ((r : Nat) : Int)) ≤ 15 := by decide +kernel
theorem or15 {x r : Int} (hx : 0 ≤ x ∧ x ≤ 15) (hr : 0 ≤ r ∧ r ≤ 3) : 0 ≤ pvOr x (pvShl 1 r) ∧ pvOr x (pvShl 1 r) ≤ 15 := by
  obtain ⟨a, rfl⟩ := fin_of (a := x) (n := 16) (by omega)
  obtain ⟨b, rfl⟩ := fin_of (a := r) (n := 4) (by omega)
  exact or15F a b
theorem sbK_r {T : Nat → Nat → Int} {n : Nat} (h : ∀ t, t < n → 0 ≤ T t 2 ∧ T t 2 ≤ 3) (set a v : Int) (k : Nat) (hk : k ≤ n) : 0 ≤ sbK T set a v k ∧ sbK T set a v k ≤ 15 := by
  induction k with
  | zero => exact ⟨Int.le_refl 0, by show (0 : Int) ≤ 15; decide⟩
  | succ k ih =>
    simp only [sbK]
    split
    · exact or15 (ih (by omega)) (h k (by omega))
    · exact ih (by omega)
theorem sbF_r {A : Aut} (h : WfA A) (set a v : Int) : 0 ≤ sbF A set a v ∧ sbF A set a v ≤ 15 :=
  sbK_r (n := A.1.toNat) (fun t ht => (h.2.2.2 t (by omega)).2.2.1) set a v _ (Nat.le_refl _)
theorem abA_T {n i f : Int} {T : Nat → Nat → Int} {t : Nat} (h : (t : Int) < n) : (abA n i f T).2.2.2 t = nrT (T t) := if_pos h
theorem sbK_ab {n i f : Int} {T : Nat → Nat → Int} (set a v : Int) (k : Nat) (hk : (k : Int) ≤ n) : sbK (abA n i f T).2.2.2 set a v k = sbK T set a v k := by
  induction k with
  | zero => rfl
  | succ k ih =>
    simp only [sbK, abA_T (show (k : Int) < n by omega), nrT_s (show 0 < 4 by decide), nrT_s (show 1 < 4 by decide), nrT_s (show 2 < 4 by decide), blF_nr, ih (by omega)]
theorem blF_ge (T : Nat → Int) (v : Int) : -1 ≤ blF T v := by
  have : ∀ m k, -1 ≤ blK T v m k := by
    intro m
    induction m with
    | zero => intro k; exact Int.le_refl _
    | succ m ih =>
      intro k
      simp only [blK]
      split
      · exact ih _
      · omega
  exact this _ _
/-- a word: delays and letters; the valuation before its k-th event's delay -/
def vaF (d l : Nat → Int) : Nat → Int
  | 0 => 215
  | k + 1 => rsF (psF (vaF d l k) (d k)) (l k)
def WdF (n : Int) (d l : Nat → Int) : Prop := (0 ≤ n ∧ n ≤ 10) ∧ ∀ k : Nat, (k : Int) < n → (0 ≤ d k ∧ d k ≤ 4) ∧ 0 ≤ l k ∧ l k ≤ 2
theorem vaF_r {n : Int} {d l : Nat → Int} (h : WdF n d l) (k : Nat) (hk : (k : Int) ≤ n) : 0 ≤ vaF d l k ∧ vaF d l k < 216 := by
  induction k with
  | zero => exact ⟨by show (0 : Int) ≤ 215; decide, by show (215 : Int) < 216; decide⟩
  | succ k ih =>
    have h1 := ih (by omega)
    have h2 := h.2 k (by omega)
    exact rsF_r (psF_r (by omega))
theorem rS_n {f : Nat → Int} {s E : Int} (hs : 0 ≤ s) (h : E = 163 * s + 2) : f E.toNat = (autR f s).1 := by
  show f E.toNat = f (163 * s.toNat + 2)
  rw [show E.toNat = 163 * s.toNat + 2 by omega]
theorem rS_i {f : Nat → Int} {s E : Int} (hs : 0 ≤ s) (h : E = 163 * s) : f E.toNat = (autR f s).2.1 := by
  show f E.toNat = f (163 * s.toNat)
  rw [show E.toNat = 163 * s.toNat by omega]
theorem rS_f {f : Nat → Int} {s E : Int} (hs : 0 ≤ s) (h : E = 163 * s + 1) : f E.toNat = (autR f s).2.2.1 := by
  show f E.toNat = f (163 * s.toNat + 1)
  rw [show E.toNat = 163 * s.toNat + 1 by omega]
