theorem nw_bit : ∀ (c : Fin 3) (s : Fin 64) (e : Fin 3) (x : Fin 6), (262143 - 63 * 64 ^ c.val + s.val * 64 ^ c.val).testBit (6 * e.val + x.val) = if e.val = c.val then s.val.testBit x.val else true := by decide +kernel
theorem nw_al {a c s v : Int} (ha : 0 ≤ a ∧ a < 262144) (hc : 0 ≤ c ∧ c ≤ 2) (hs : 0 ≤ s ∧ s ≤ 63) (hv : 0 ≤ v ∧ v < 216) : alF (nwF a c s) v = (alF a v && btF s (ptF v c)) := by
  obtain ⟨n, rfl⟩ : ∃ n : Nat, a = n := ⟨a.toNat, by omega⟩
  obtain ⟨k, rfl⟩ := fin_of (a := c) (n := 3) (by omega)
  obtain ⟨m, rfl⟩ := fin_of (a := s) (n := 64) (by omega)
  have b0 := nw_bit k m 0 ⟨(v % 6).toNat, by omega⟩
  have b1 := nw_bit k m 1 ⟨(v / 6 % 6).toNat, by omega⟩
  have b2 := nw_bit k m 2 ⟨(v / 36).toNat, by omega⟩
  simp only [Nat.mul_zero, Nat.zero_add, Nat.mul_one, show ((0 : Fin 3) : Nat) = 0 from rfl, show ((1 : Fin 3) : Nat) = 1 from rfl, show ((2 : Fin 3) : Nat) = 2 from rfl, show 6 * 2 = 12 from rfl] at b0 b1 b2
  simp only [alF, nwF, btF, ptF, Int.toNat_natCast, Nat.testBit_and, b0, b1, b2]
  obtain ⟨k, hk⟩ := k
  simp only at b0 b1 b2 ⊢
  have : k = 0 ∨ k = 1 ∨ k = 2 := by omega
  rcases this with rfl | rfl | rfl <;> simp <;> ac_rfl
theorem al_any {v : Int} (hv : 0 ≤ v ∧ v < 216) : alF 262143 v = true := by
  have q : ∀ j : Nat, j < 18 → (262143 : Nat).testBit j = true := by decide
  simp only [alF, show (262143 : Int).toNat = 262143 from rfl, q (v % 6).toNat (by omega), q (6 + (v / 6 % 6).toNat) (by omega), q (12 + (v / 36).toNat) (by omega)]
  rfl
/-- the first k constraints hold -/
def hoK (T : Nat → Int) (v : Int) (k : Nat) : Prop := ∀ j, j < k → hdF (T (5 + 3 * j)) (T (6 + 3 * j)) (ptF v (T (4 + 3 * j))) = true
theorem blK_iff (T : Nat → Int) (v : Int) (m k : Nat) : blK T v m k < 0 ↔ ∀ j, k ≤ j → j < k + m → hdF (T (5 + 3 * j)) (T (6 + 3 * j)) (ptF v (T (4 + 3 * j))) = true := by
  induction m generalizing k with
  | zero => exact ⟨fun _ j h1 h2 => by omega, fun _ => by show (-1 : Int) < 0; decide⟩
  | succ m ih =>
    simp only [blK]
    by_cases e : hdF (T (5 + 3 * k)) (T (6 + 3 * k)) (ptF v (T (4 + 3 * k))) = true
    · rw [if_pos e, ih]
      constructor
      · intro h j h1 h2
        by_cases q : j = k
        · rw [q]; exact e
        · exact h j (by omega) (by omega)
      · intro h j h1 h2
        exact h j (by omega) (by omega)
    · rw [if_neg e]
      constructor
      · intro h; omega
      · intro h; exact absurd (h k (Nat.le_refl _) (by omega)) e
theorem blF_iff (T : Nat → Int) (v : Int) : blF T v < 0 ↔ hoK T v (T 3).toNat := by
  unfold blF hoK
  rw [blK_iff]
  constructor
  · intro h j hj; exact h j (Nat.zero_le _) (by omega)
  · intro h j _ hj; exact h j (by omega)
/-- a guard's numbers: clock, kind, number of each constraint -/
def hoN (p : Nat → Int) (v : Int) (k : Nat) : Prop := ∀ j, j < k → hdF (p (3 * j + 1)) (p (3 * j + 2)) (ptF v (p (3 * j))) = true
def GwF (c : Int) (p : Nat → Int) : Prop := (0 ≤ c ∧ c ≤ 4) ∧ ∀ k : Nat, (k : Int) < c → (0 ≤ p (3 * k) ∧ p (3 * k) ≤ 2) ∧ (0 ≤ p (3 * k + 1) ∧ p (3 * k + 1) ≤ 6) ∧ (0 ≤ p (3 * k + 2) ∧ p (3 * k + 2) ≤ 3)
/-- a row with a new transition n, its first i constraints laid, of the next c numbers -/
def adI (f : Nat → Int) (n : Nat) (q a r w : Int) (p : Nat → Int) (g : Nat → Int) (i c : Nat) : Prop :=
  (∀ j, j < 3 → g j = f j) ∧ (∀ t c' : Nat, t < n → c' < 17 → cT g t c' = cT f t c') ∧ (cT g n 0 = q ∧ cT g n 1 = a ∧ cT g n 2 = r ∧ cT g n 3 = w) ∧
  ∀ k c' : Nat, c' < 3 → (k < i ∨ k = i ∧ c' < c) → cT g n (4 + 3 * k + c') = p (3 * k + c')
theorem adI_s {f g p : Nat → Int} {n i c : Nat} {q a r w : Int} (h : adI f n q a r w p g i c) (hi : i < 4) (hc : c < 3) : adI f n q a r w p (fun j => if j = 3 + 17 * n + (4 + 3 * i + c) then p (3 * i + c) else g j) i (c + 1) := by
  obtain ⟨h1, h2, ⟨h3, h4, h5, h6⟩, h7⟩ := h
  refine ⟨fun j hj => ?_, fun t c' ht hc' => ?_, ⟨?_, ?_, ?_, ?_⟩, fun k c' hc' hk => ?_⟩
  · show (if j = _ then _ else _) = _
    rw [if_neg (by omega)]; exact h1 j hj
  · rw [cT_0 (by omega) hc', if_neg (by omega)]; exact h2 t c' ht hc'
  · rw [cT_0 (by omega) (by omega), if_neg (by omega)]; exact h3
  · rw [cT_0 (by omega) (by omega), if_neg (by omega)]; exact h4
  · rw [cT_0 (by omega) (by omega), if_neg (by omega)]; exact h5
  · rw [cT_0 (by omega) (by omega), if_neg (by omega)]; exact h6
  · rw [cT_0 (by omega) (by omega)]
    by_cases e : k = i ∧ c' = c
    · obtain ⟨rfl, rfl⟩ := e
      rw [if_pos ⟨rfl, rfl⟩]
    · rw [if_neg (by omega)]; exact h7 k c' hc' (by omega)
theorem adI_n {f g p : Nat → Int} {n i c : Nat} {q a r w : Int} (h : adI f n q a r w p g i c) (hc : 3 ≤ c) : adI f n q a r w p g (i + 1) 0 :=
  ⟨h.1, h.2.1, h.2.2.1, fun k c' hc' hk => h.2.2.2 k c' hc' (by omega)⟩
theorem nwF_r {a c s : Int} (ha : 0 ≤ a ∧ a < 262144) : 0 ≤ nwF a c s ∧ nwF a c s < 262144 := by
  unfold nwF
  have : a.toNat &&& (262143 - 63 * 64 ^ c.toNat + s.toNat * 64 ^ c.toNat) ≤ a.toNat := Nat.and_le_left
  omega
theorem nw_ho {p : Nat → Int} {x v w : Int} {i : Nat} (hg : GwF w p) (hi : (i : Int) < w) (hx : 0 ≤ x ∧ x < 262144) (hv : 0 ≤ v ∧ v < 216) (h : alF x v = true ↔ hoN p v i) :
    alF (nwF x (p (3 * i)) (smF (p (3 * i + 1)) (p (3 * i + 2)))) v = true ↔ hoN p v (i + 1) := by
  obtain ⟨a, b, c⟩ := hg.2 i hi
  have s := smF_r (p (3 * i + 1)) (p (3 * i + 2))
  have t := ptF_r (v := v) (c := p (3 * i)) hv
  rw [nw_al hx a s hv, sm_bit b c t, Bool.and_eq_true, h]
  constructor
  · rintro ⟨h1, h2⟩ j hj
    by_cases e : j = i
    · rw [e]; exact h2
    · exact h1 j (by omega)
  · intro h1
    exact ⟨fun j hj => h1 j (by omega), h1 i (by omega)⟩

