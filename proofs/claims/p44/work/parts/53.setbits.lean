theorem bt_extF : ∀ (x y : Fin 16), (∀ q : Fin 4, btF ((x : Nat) : Int) ((q : Nat) : Int) = btF ((y : Nat) : Int) ((q : Nat) : Int)) → ((x : Nat) : Int) = ((y : Nat) : Int) := by decide +kernel
theorem bt_ext {x y : Int} (hx : 0 ≤ x ∧ x ≤ 15) (hy : 0 ≤ y ∧ y ≤ 15) (h : ∀ q : Int, 0 ≤ q ∧ q ≤ 3 → (btF x q = true ↔ btF y q = true)) : x = y := by
  obtain ⟨a, rfl⟩ := fin_of (a := x) (n := 16) (by omega)
  obtain ⟨b, rfl⟩ := fin_of (a := y) (n := 16) (by omega)
  exact bt_extF a b fun q => Bool.eq_iff_iff.mpr (h _ (by omega))
theorem sb_bt {T : Nat → Nat → Int} {n : Nat} (hT : ∀ t, t < n → 0 ≤ T t 2 ∧ T t 2 ≤ 3) (set a v : Int) {q : Int} (hq : 0 ≤ q ∧ q ≤ 3) (k : Nat) (hk : k ≤ n) : btF (sbK T set a v k) q = true ↔ ∃ t, t < k ∧ T t 2 = q ∧ btF set (T t 0) = true ∧ T t 1 = a ∧ blF (T t) v < 0 := by
  induction k with
  | zero =>
    simp only [sbK]
    constructor
    · intro h; exact absurd h (by unfold btF; simp)
    · rintro ⟨t, ht, _⟩; omega
  | succ k ih =>
    have hr := sbK_r hT set a v k (by omega)
    simp only [sbK]
    by_cases e : btF set (T k 0) = true ∧ T k 1 = a ∧ blF (T k) v < 0
    · rw [if_pos e, bt_or hr (hT k (by omega)) hq, Bool.or_eq_true, ih (by omega), decide_eq_true_iff]
      constructor
      · rintro (⟨t, ht, h⟩ | h)
        · exact ⟨t, by omega, h⟩
        · exact ⟨k, by omega, h.symm, e⟩
      · rintro ⟨t, ht, h⟩
        by_cases et : t = k
        · subst et; exact Or.inr h.1.symm
        · exact Or.inl ⟨t, by omega, h⟩
    · rw [if_neg e, ih (by omega)]
      constructor
      · rintro ⟨t, ht, h⟩; exact ⟨t, by omega, h⟩
      · rintro ⟨t, ht, h⟩
        by_cases et : t = k
        · subst et; exact absurd h.2 e
        · exact ⟨t, by omega, h⟩
/-- an or with one bit -/
theorem or_bit {x j : Int} (hx : 0 ≤ x ∧ x ≤ 65535) (hj : 0 ≤ j ∧ j ≤ 15) : (0 ≤ pvOr x (pvShl 1 j) ∧ pvOr x (pvShl 1 j) ≤ 65535) ∧ ∀ i : Nat, (pvOr x (pvShl 1 j)).toNat.testBit i = (x.toNat.testBit i || decide (i = j.toNat)) := by
  obtain ⟨w, ew⟩ : ∃ w : Nat, 2 ^ j.toNat = w := ⟨_, rfl⟩
  have h2 : w < 2 ^ 16 := by rw [← ew]; exact Nat.pow_lt_pow_right (by decide) (by omega)
  have e1 : pvShl 1 j = (w : Int) := by
    have h3 : (w : Int) = (2 : Int) ^ j.toNat := by rw [← ew, Int.natCast_pow]; rfl
    rw [pvShl_nat (by decide) hj.1 (by omega) (by rw [Int.one_mul, ← h3]; omega), Int.one_mul, h3]
  have h4 : x.toNat ||| w < 2 ^ 16 := Nat.or_lt_two_pow (by omega) h2
  rw [e1, pvOr_nat hx.1 (by omega) (by omega) (by omega), Int.toNat_natCast]
  refine ⟨by omega, fun i => ?_⟩
  rw [Int.toNat_natCast, Nat.testBit_or, ← ew, Nat.testBit_two_pow]
  congr 1
  exact decide_eq_decide.mpr ⟨fun h => h.symm, fun h => h.symm⟩
/-- the targets from each state that are laid, of the first k transitions -/
def mvK (f : Nat → Int) (T : Nat → Nat → Int) (k : Nat) : Prop := ∀ a v : Nat, a < 3 → v < 216 → (0 ≤ f (216 * a + v) ∧ f (216 * a + v) ≤ 65535) ∧ ∀ q r : Nat, q < 4 → r < 4 → ((f (216 * a + v)).toNat.testBit (4 * q + r) = true ↔ ∃ t, t < k ∧ T t 0 = q ∧ T t 2 = r ∧ T t 1 = a ∧ blF (T t) v < 0)
def mvP (f : Nat → Int) (A : Aut) : Prop := mvK f A.2.2.2 A.1.toNat
/-- the successor that the class works out of the targets laid -/
def suN (m set : Int) : Int := pvAnd (if btF set 3 then pvOr (if btF set 2 then pvOr (if btF set 1 then pvOr (if btF set 0 then pvOr 0 m else 0) (pvShr m 4) else (if btF set 0 then pvOr 0 m else 0)) (pvShr m 8) else (if btF set 1 then pvOr (if btF set 0 then pvOr 0 m else 0) (pvShr m 4) else (if btF set 0 then pvOr 0 m else 0))) (pvShr m 12) else (if btF set 2 then pvOr (if btF set 1 then pvOr (if btF set 0 then pvOr 0 m else 0) (pvShr m 4) else (if btF set 0 then pvOr 0 m else 0)) (pvShr m 8) else (if btF set 1 then pvOr (if btF set 0 then pvOr 0 m else 0) (pvShr m 4) else (if btF set 0 then pvOr 0 m else 0)))) 15
theorem pvOr_n {x y : Nat} (hx : x ≤ 65535) (hy : y ≤ 65535) : pvOr (x : Int) (y : Int) = ((x ||| y : Nat) : Int) ∧ x ||| y ≤ 65535 := by
  have h4 : x ||| y < 2 ^ 16 := Nat.or_lt_two_pow (by omega) (by omega)
  refine ⟨?_, by omega⟩
  rw [pvOr_nat (by omega) (by omega) (by omega) (by omega)]
  rfl
theorem suN_bt {m set : Int} (hm : 0 ≤ m ∧ m ≤ 65535) {r : Int} (hr : 0 ≤ r ∧ r ≤ 3) : (0 ≤ suN m set ∧ suN m set ≤ 15) ∧ (btF (suN m set) r = true ↔ ∃ q : Nat, q < 4 ∧ btF set (q : Int) = true ∧ m.toNat.testBit (4 * q + r.toNat) = true) := by
  obtain ⟨m, rfl⟩ : ∃ n : Nat, m = n := ⟨m.toNat, by omega⟩
  obtain ⟨r, rfl⟩ : ∃ n : Nat, r = n := ⟨r.toNat, by omega⟩
  have s4 := shr_le m 4
  have s8 := shr_le m 8
  have s12 := shr_le m 12
  have e4 : pvShr (m : Int) 4 = ((m >>> 4 : Nat) : Int) := pvShr_n (by omega) (by omega) (by decide) (by decide)
  have e8 : pvShr (m : Int) 8 = ((m >>> 8 : Nat) : Int) := pvShr_n (by omega) (by omega) (by decide) (by decide)
  have e12 : pvShr (m : Int) 12 = ((m >>> 12 : Nat) : Int) := pvShr_n (by omega) (by omega) (by decide) (by decide)
  have key : ∃ x : Nat, x ≤ 65535 ∧ suN (m : Int) set = ((x &&& 15 : Nat) : Int) ∧ ∀ i, x.testBit i = ((btF set 0 && m.testBit i) || (btF set 1 && (m >>> 4).testBit i) || (btF set 2 && (m >>> 8).testBit i) || (btF set 3 && (m >>> 12).testBit i)) := by
    refine ⟨(if btF set 0 then m else 0) ||| (if btF set 1 then m >>> 4 else 0) ||| (if btF set 2 then m >>> 8 else 0) ||| (if btF set 3 then m >>> 12 else 0), ?_, ?_, ?_⟩
    · have a1 := (pvOr_n (x := if btF set 0 then m else 0) (y := if btF set 1 then m >>> 4 else 0) (by split <;> omega) (by split <;> omega)).2
      have a2 := (pvOr_n (y := if btF set 2 then m >>> 8 else 0) a1 (by split <;> omega)).2
      exact (pvOr_n (y := if btF set 3 then m >>> 12 else 0) a2 (by split <;> omega)).2
    · have stp : ∀ (b : Bool) (x y : Nat), x ≤ 65535 → y ≤ 65535 → (if b then pvOr (x : Int) (y : Int) else (x : Int)) = ((x ||| (if b then y else 0) : Nat) : Int) := by
        intro b x y hx hy
        cases b
        · simp
        · simp [(pvOr_n hx hy).1]
      have s0 : (if btF set 0 then pvOr 0 (m : Int) else 0) = (((if btF set 0 then m else 0) : Nat) : Int) := by
        have := stp (btF set 0) 0 m (by decide) (by omega)
        rw [Nat.zero_or] at this
        exact this
      have a1 := (pvOr_n (x := if btF set 0 then m else 0) (y := if btF set 1 then m >>> 4 else 0) (by split <;> omega) (by split <;> omega)).2
      have a2 := (pvOr_n (y := if btF set 2 then m >>> 8 else 0) a1 (by split <;> omega)).2
      have a3 := (pvOr_n (y := if btF set 3 then m >>> 12 else 0) a2 (by split <;> omega)).2
      have s1 := stp (btF set 1) (if btF set 0 then m else 0) (m >>> 4) (by split <;> omega) (by omega)
      have s2 := stp (btF set 2) _ (m >>> 8) a1 (by omega)
      have s3 := stp (btF set 3) _ (m >>> 12) a2 (by omega)
      unfold suN
      rw [e4, e8, e12, s0, s1, s2, s3]
      exact pvAnd_n (y := 15) (Nat.le_trans a3 (by decide)) (by decide)
    · intro i
      rw [Nat.testBit_or, Nat.testBit_or, Nat.testBit_or]
      cases btF set 0 <;> cases btF set 1 <;> cases btF set 2 <;> cases btF set 3 <;> simp
  obtain ⟨x, hx, e, hb⟩ := key
  rw [e]
  have h15 : x &&& 15 ≤ 15 := Nat.and_le_right
  refine ⟨by omega, ?_⟩
  unfold btF
  have hr4 : r < 4 := by omega
  have b15 : (15 : Nat).testBit r = true := by
    have : ∀ r : Fin 4, (15 : Nat).testBit r = true := by decide
    exact this ⟨r, hr4⟩
  simp only [Int.toNat_natCast]
  rw [Nat.testBit_and, b15, Bool.and_true, hb]
  simp only [Nat.testBit_shiftRight, Bool.or_eq_true, Bool.and_eq_true]
  unfold btF
  constructor
  · rintro (((⟨h1, h2⟩ | ⟨h1, h2⟩) | ⟨h1, h2⟩) | ⟨h1, h2⟩)
    · exact ⟨0, by decide, h1, by simpa using h2⟩
    · exact ⟨1, by decide, h1, h2⟩
    · exact ⟨2, by decide, h1, h2⟩
    · exact ⟨3, by decide, h1, h2⟩
  · rintro ⟨q, hq, h1, h2⟩
    rcases (show q = 0 ∨ q = 1 ∨ q = 2 ∨ q = 3 by omega) with rfl | rfl | rfl | rfl
    · exact Or.inl (Or.inl (Or.inl ⟨h1, by simpa using h2⟩))
    · exact Or.inl (Or.inl (Or.inr ⟨h1, h2⟩))
    · exact Or.inl (Or.inr ⟨h1, h2⟩)
    · exact Or.inr ⟨h1, h2⟩
theorem su_eq {f : Nat → Int} {A : Aut} (h : mvP f A) (hw : WfA A) {set : Int} {a v : Nat} (ha : a < 3) (hv : v < 216) : suN (f (216 * a + v)) set = sbF A set a v := by
  obtain ⟨h1, h2⟩ := h a v ha hv
  refine bt_ext (suN_bt h1 (r := 0) (by decide)).1 (sbF_r hw _ _ _) fun r hr => ?_
  rw [(suN_bt h1 hr).2]
  unfold sbF
  rw [sb_bt (n := A.1.toNat) (fun t ht => (hw.2.2.2 t (by omega)).2.2.1) _ _ _ hr A.1.toNat (Nat.le_refl _)]
  constructor
  · rintro ⟨q, hq, h3, h4⟩
    obtain ⟨t, ht, t0, t2, t1, tb⟩ := (h2 q r.toNat hq (by omega)).mp h4
    exact ⟨t, ht, by omega, by rw [t0]; exact h3, t1, tb⟩
  · rintro ⟨t, ht, t2, t0, t1, tb⟩
    have hq := (hw.2.2.2 t (by omega)).1
    refine ⟨(A.2.2.2 t 0).toNat, by omega, by rw [show (((A.2.2.2 t 0).toNat : Nat) : Int) = A.2.2.2 t 0 by omega]; exact t0, (h2 _ r.toNat (by omega) (by omega)).mpr ⟨t, ht, by omega, by omega, t1, tb⟩⟩

