def hpK (A : Aut) (d l : Nat → Int) : Nat → Nat → Int
  | 0, _ => A.2.2.1
  | m + 1, i => saF A (hpK A d l m (i + 1)) (l i) (psF (vaF d l i) (d i))
def lbF (s : Int) : Int := if btF s 0 then 0 else if btF s 1 then 1 else if btF s 2 then 2 else 3
/-- the state behind k events of the first accepting run, and the transition that led there -/
def frK (A : Aut) (d l : Nat → Int) (n : Nat) : Nat → Int × Int
  | 0 => (lbF (pvAnd A.2.1 (hpK A d l n 0)), -1)
  | k + 1 => (A.2.2.2 (fmK A.2.2.2 (frK A d l n k).1 (hpK A d l (n - (k + 1)) (k + 1)) (l k) (psF (vaF d l k) (d k)) A.1.toNat 0).toNat 2, fmK A.2.2.2 (frK A d l n k).1 (hpK A d l (n - (k + 1)) (k + 1)) (l k) (psF (vaF d l k) (d k)) A.1.toNat 0)
theorem bt_orF : ∀ (x : Fin 16) (r : Fin 4) (q : Fin 4), btF (pvOr ((x : Nat) : Int) (pvShl 1 ((r : Nat) : Int))) ((q : Nat) : Int) = (btF ((x : Nat) : Int) ((q : Nat) : Int) || decide (((q : Nat) : Int) = ((r : Nat) : Int))) := by decide +kernel
theorem bt_or {x r q : Int} (hx : 0 ≤ x ∧ x ≤ 15) (hr : 0 ≤ r ∧ r ≤ 3) (hq : 0 ≤ q ∧ q ≤ 3) : btF (pvOr x (pvShl 1 r)) q = (btF x q || decide (q = r)) := by
  obtain ⟨a, rfl⟩ := fin_of (a := x) (n := 16) (by omega)
  obtain ⟨b, rfl⟩ := fin_of (a := r) (n := 4) (by omega)
  obtain ⟨c, rfl⟩ := fin_of (a := q) (n := 4) (by omega)
  exact bt_orF a b c
theorem bt_andF : ∀ (x : Fin 16) (y : Fin 16) (q : Fin 4), btF (pvAnd ((x : Nat) : Int) ((y : Nat) : Int)) ((q : Nat) : Int) = (btF ((x : Nat) : Int) ((q : Nat) : Int) && btF ((y : Nat) : Int) ((q : Nat) : Int)) := by decide +kernel
theorem bt_and {x y q : Int} (hx : 0 ≤ x ∧ x ≤ 15) (hy : 0 ≤ y ∧ y ≤ 15) (hq : 0 ≤ q ∧ q ≤ 3) : btF (pvAnd x y) q = (btF x q && btF y q) := by
  obtain ⟨a, rfl⟩ := fin_of (a := x) (n := 16) (by omega)
  obtain ⟨b, rfl⟩ := fin_of (a := y) (n := 16) (by omega)
  obtain ⟨c, rfl⟩ := fin_of (a := q) (n := 4) (by omega)
  exact bt_andF a b c
theorem and15F : ∀ (x : Fin 16) (y : Fin 16), 0 ≤ pvAnd ((x : Nat) : Int) ((y : Nat) : Int) ∧ pvAnd ((x : Nat) : Int) ((y : Nat) : Int) ≤ 15 := by decide +kernel
theorem and15 {x y : Int} (hx : 0 ≤ x ∧ x ≤ 15) (hy : 0 ≤ y ∧ y ≤ 15) : 0 ≤ pvAnd x y ∧ pvAnd x y ≤ 15 := by
  obtain ⟨a, rfl⟩ := fin_of (a := x) (n := 16) (by omega)
  obtain ⟨b, rfl⟩ := fin_of (a := y) (n := 16) (by omega)
  exact and15F a b
theorem lowF : ∀ x : Fin 16, ¬ ((x : Nat) : Int) = 0 → (0 ≤ pvAnd ((x : Nat) : Int) (-((x : Nat) : Int)) - 1 ∧ pvAnd ((x : Nat) : Int) (-((x : Nat) : Int)) - 1 ≤ 65535) ∧ pcF (pvAnd ((x : Nat) : Int) (-((x : Nat) : Int)) - 1) = lbF ((x : Nat) : Int) ∧ btF ((x : Nat) : Int) (lbF ((x : Nat) : Int)) = true := by decide +kernel
theorem low {x : Int} (hx : 0 ≤ x ∧ x ≤ 15) (h0 : ¬ x = 0) : (0 ≤ pvAnd x (-x) - 1 ∧ pvAnd x (-x) - 1 ≤ 65535) ∧ pcF (pvAnd x (-x) - 1) = lbF x ∧ btF x (lbF x) = true := by
  obtain ⟨a, rfl⟩ := fin_of (a := x) (n := 16) (by omega)
  exact lowF a h0
theorem lbF_r (x : Int) : 0 ≤ lbF x ∧ lbF x ≤ 3 := by
  unfold lbF
  (repeat' split) <;> omega
theorem zero_btF : ∀ x : Fin 16, ((x : Nat) : Int) = 0 ↔ ∀ q : Fin 4, btF ((x : Nat) : Int) ((q : Nat) : Int) = false := by decide +kernel
theorem zero_bt {x : Int} (hx : 0 ≤ x ∧ x ≤ 15) : x = 0 ↔ ∀ q : Int, 0 ≤ q ∧ q ≤ 3 → btF x q = false := by
  obtain ⟨a, rfl⟩ := fin_of (a := x) (n := 16) (by omega)
  rw [zero_btF a]
  constructor
  · intro h q hq
    obtain ⟨c, rfl⟩ := fin_of (a := q) (n := 4) (by omega)
    exact h c
  · intro h c
    exact h _ (by omega)
theorem sa_bt {T : Nat → Nat → Int} {n : Nat} (hT : ∀ t, t < n → 0 ≤ T t 0 ∧ T t 0 ≤ 3) (set a v : Int) {q : Int} (hq : 0 ≤ q ∧ q ≤ 3) (k : Nat) (hk : k ≤ n) : btF (saK T set a v k) q = true ↔ ∃ t, t < k ∧ T t 0 = q ∧ btF set (T t 2) = true ∧ T t 1 = a ∧ blF (T t) v < 0 := by
  induction k with
  | zero =>
    simp only [saK]
    constructor
    · intro h; exact absurd h (by unfold btF; simp)
    · rintro ⟨t, ht, _⟩; omega
  | succ k ih =>
    have hr := saK_r hT set a v k (by omega)
    simp only [saK]
    by_cases e : btF set (T k 2) = true ∧ T k 1 = a ∧ blF (T k) v < 0
    · rw [if_pos e, bt_or hr (hT k (by omega)) hq, Bool.or_eq_true, ih (by omega), decide_eq_true_iff]
      constructor
      · rintro (⟨t, ht, h⟩ | h)
        · exact ⟨t, by omega, h⟩
        · exact ⟨k, by omega, h.symm, e⟩
      · rintro ⟨t, ht, h⟩
        by_cases et : t = k
        · subst et; exact Or.inr h.1.symm
        · exact Or.inl ⟨t, by omega, h⟩
    · rw [if_neg e, ih (by omega)]
      constructor
      · rintro ⟨t, ht, h⟩; exact ⟨t, by omega, h⟩
      · rintro ⟨t, ht, h⟩
        by_cases et : t = k
        · subst et; exact absurd h.2 e
        · exact ⟨t, by omega, h⟩
theorem fm_f {T : Nat → Nat → Int} {q set a v : Int} (m k : Nat) (h : ∃ t, k ≤ t ∧ t < k + m ∧ T t 0 = q ∧ btF set (T t 2) = true ∧ T t 1 = a ∧ blF (T t) v < 0) :
    ∃ t : Nat, fmK T q set a v m k = t ∧ k ≤ t ∧ t < k + m ∧ (T t 0 = q ∧ btF set (T t 2) = true ∧ T t 1 = a ∧ blF (T t) v < 0) ∧ ∀ u, k ≤ u → u < t → ¬ (T u 0 = q ∧ btF set (T u 2) = true ∧ T u 1 = a ∧ blF (T u) v < 0) := by
  induction m generalizing k with
  | zero => obtain ⟨t, h1, h2, _⟩ := h; omega
  | succ m ih =>
    simp only [fmK]
    by_cases e : T k 0 = q ∧ btF set (T k 2) = true ∧ T k 1 = a ∧ blF (T k) v < 0
    · rw [if_pos e]
      exact ⟨k, rfl, Nat.le_refl _, by omega, e, fun u h1 h2 => by omega⟩
    · rw [if_neg e]
      obtain ⟨t, h1, h2, h3⟩ := h
      obtain ⟨t', e1, e2, e3, e4, e5⟩ := ih (k + 1) ⟨t, by
        by_cases et : t = k
        · subst et; exact absurd h3 e
        · omega, by omega, h3⟩
      refine ⟨t', e1, by omega, by omega, e4, fun u h1 h2 => ?_⟩
      by_cases eu : u = k
      · subst eu; exact e
      · exact e5 u (by omega) h2
theorem hpK_r {A : Aut} (h : WfA A) (d l : Nat → Int) (m i : Nat) : 0 ≤ hpK A d l m i ∧ hpK A d l m i ≤ 15 := by
  cases m with
  | zero => exact h.2.2.1
  | succ m => exact saF_r h _ _ _
theorem frK_ok {A : Aut} (h : WfA A) (d l : Nat → Int) (n : Nat) (h0 : ¬ pvAnd A.2.1 (hpK A d l n 0) = 0) (k : Nat) (hk : k ≤ n) : (0 ≤ (frK A d l n k).1 ∧ (frK A d l n k).1 ≤ 3) ∧ btF (hpK A d l (n - k) k) (frK A d l n k).1 = true := by
  have hr := hpK_r h d l
  induction k with
  | zero =>
    have h1 := and15 h.2.1 (hr n 0)
    have h2 := (low h1 h0).2.2
    have h3 := lbF_r (pvAnd A.2.1 (hpK A d l n 0))
    rw [bt_and h.2.1 (hr n 0) h3, Bool.and_eq_true] at h2
    exact ⟨h3, h2.2⟩
  | succ k ih =>
    obtain ⟨i1, i2⟩ := ih (by omega)
    rw [show n - k = n - (k + 1) + 1 by omega] at i2
    have i3 := (sa_bt (n := A.1.toNat) (fun t ht => (h.2.2.2 t (by omega)).1) _ _ _ i1 A.1.toNat (Nat.le_refl _)).mp i2
    obtain ⟨t, ht, h3⟩ := i3
    obtain ⟨t', e1, -, e3, e4, -⟩ := fm_f A.1.toNat 0 ⟨t, Nat.zero_le _, by omega, h3⟩
    simp only [frK]
    rw [e1, Int.toNat_natCast]
    exact ⟨(h.2.2.2 t' (by omega)).2.2.1, e4.2.1⟩
theorem frK_t {A : Aut} (h : WfA A) (d l : Nat → Int) (n : Nat) (h0 : ¬ pvAnd A.2.1 (hpK A d l n 0) = 0) (k : Nat) (hk : k < n) : 0 ≤ (frK A d l n (k + 1)).2 ∧ (frK A d l n (k + 1)).2 < A.1 := by
  obtain ⟨i1, i2⟩ := frK_ok h d l n h0 k (by omega)
  rw [show n - k = n - (k + 1) + 1 by omega] at i2
  have i3 := (sa_bt (n := A.1.toNat) (fun t ht => (h.2.2.2 t (by omega)).1) _ _ _ i1 A.1.toNat (Nat.le_refl _)).mp i2
  obtain ⟨t, ht, h3⟩ := i3
  obtain ⟨t', e1, -, e3, e4, -⟩ := fm_f A.1.toNat 0 ⟨t, Nat.zero_le _, by omega, h3⟩
  simp only [frK]
  rw [e1]
  omega
