/-! fill: what holds between its rows -/
theorem sb_rg {a : Nat} (h : a < 2 ^ 31) : pvR (a : Int) := by
  unfold pvR
  omega
theorem sb_div {a b : Nat} (ha : a < 2 ^ 31) (hb : 0 < b) (hb2 : b < 2 ^ 31) : Int32.ofNat a / Int32.ofNat b = Int32.ofNat (a / b) := by
  show Int32.ofInt (a : Int) / Int32.ofInt (b : Int) = Int32.ofInt ((a / b : Nat) : Int)
  rw [pvN_div (sb_rg ha) (sb_rg hb2) (by omega) (by omega), Int.natCast_ediv]
theorem sb_rem {a b : Nat} (ha : a < 2 ^ 31) (hb : 0 < b) (hb2 : b < 2 ^ 31) : Int32.ofNat a - Int32.ofNat a / Int32.ofNat b * Int32.ofNat b = Int32.ofNat (a % b) := by
  show Int32.ofInt (a : Int) - Int32.ofInt (a : Int) / Int32.ofInt (b : Int) * Int32.ofInt (b : Int) = Int32.ofInt ((a % b : Nat) : Int)
  rw [pvN_rem (sb_rg ha) (sb_rg hb2) (by omega) (by omega), Int.natCast_emod]
/-- behind k rows: the class has read them, and the law's row holds them -/
def flS (z z' : pvM) (t : Nat) (s : Int) (k : Nat) : Prop :=
  frF [2, 4, 5, 9, 17, 18, 19, 36, 37, t] [] z z' ∧ hiF z' ∧ (WfC (z'.1 2) ∧ WfC (z'.1 4)) ∧ ((∀ j, j ≠ 6 → z'.1 5 j = z.1 5 j) ∧ (∀ j, j ≠ 6 → z'.1 9 j = z.1 9 j) ∧ z'.1 5 6 = 0 ∧ z'.1 9 6 = 0) ∧ z'.1 17 1 = 0 ∧ z'.1 (rwC (1 - s)) = z.1 (rwC (1 - s)) ∧
  ((autC (z'.1 (rwC s))).1 = k ∧ (autC (z'.1 (rwC s))).2.1 = (autC (z.1 (rwC s))).2.1 ∧ (autC (z'.1 (rwC s))).2.2.1 = (autC (z.1 (rwC s))).2.2.1) ∧
  (∀ j : Nat, j < k → (autC (z'.1 (rwC s))).2.2.2 j 3 ≤ 2 ∧ ∀ c : Nat, c < 10 → (autC (z'.1 (rwC s))).2.2.2 j c = z'.1 t (10 * j + c)) ∧ ∀ c : Nat, 10 * k ≤ c → z'.1 t c = 0
theorem flS_s {z z1 z3 z4 z5 : pvM} {t k : Nat} {s q a r w : Int} {w9 : Int} {G : Nat → Int} (h : flS z z1 t s k) (h64 : 64 ≤ t) (hs : 0 ≤ s ∧ s ≤ 1)
    (f3 : frF [t] [] z1 z3) (hlow : ∀ c, c < 10 * k → z3.1 t c = z1.1 t c) (hhi : ∀ c, 10 * k + 10 ≤ c → z3.1 t c = 0) (hrow : z3.1 t (10 * k) = q ∧ z3.1 t (10 * k + 1) = a ∧ z3.1 t (10 * k + 2) = r ∧ z3.1 t (10 * k + 3) = w) (hw : 0 ≤ w ∧ w ≤ 2) (hw9 : w9 = w)
    (hG : ∀ c : Nat, (c : Int) < 3 * w → G c = z3.1 t (10 * k + 4 + c)) (h0 : ∀ c : Nat, 3 * w ≤ (c : Int) → c < 6 → z3.1 t (10 * k + 4 + c) = 0)
    (f4 : frF [17, 18] [] z3 z4) (f5 : frF [2, 4, 5, 9, 17, 19, 36, 37] [] z4 z5) (hr : reF z4 z5) (hst : stF z4 z5) (hA : autC (z5.1 (rwC s)) = adA (autC (z4.1 (rwC s))) q a r w9 G) (hW : WfC (z5.1 (rwC s))) (ho : z5.1 (rwC (1 - s)) = z4.1 (rwC (1 - s))) (h17 : z5.1 17 1 = 0) : flS z z5 t s (k + 1) := by
  subst hw9
  obtain ⟨a1, a2, ⟨a3, a4⟩, ⟨b1, b2, b3, b4⟩, a5, a6, ⟨c1, c2, c3⟩, c4, c5⟩ := h
  have rw64 : ∀ x : Int, rwC x < 5 := fun x => rw_l.1
  have e41 : ∀ i, i ≠ t → i ≠ 17 → i ≠ 18 → z4.1 i = z1.1 i := fun i h1 h2 h3 => (f4.1 i (by simp; omega)).trans (f3.1 i (by simp; exact h1))
  have er : ∀ x : Int, z4.1 (rwC x) = z1.1 (rwC x) := fun x => e41 _ (by have := rw64 x; omega) (by have := rw64 x; omega) (by have := rw64 x; omega)
  have et : z5.1 t = z3.1 t := (f5.1 t (by simp; omega)).trans (f4.1 t (by simp; omega))
  have hh : hiF z4 := by
    unfold hiF at a2 ⊢
    rw [e41 36 (by omega) (by decide) (by decide)]
    exact a2
  have hw2 : WfC (z5.1 2) ∧ WfC (z5.1 4) := rw_two hs (by rw [e41 2 (by omega) (by decide) (by decide)]; exact a3) (by rw [e41 4 (by omega) (by decide) (by decide)]; exact a4) hW ho
  have hn4 : (autC (z4.1 (rwC s))).1 = k := by rw [er]; exact c1
  refine ⟨?_, hi_re hh hr, hw2, ⟨fun j hj => ?_, fun j hj => ?_, hst.2.2.1, hst.2.2.2⟩, h17, ?_, ⟨?_, ?_, ?_⟩, fun j hj => ?_, fun c hc => ?_⟩
  · exact frF_t (frF_t (frF_t a1 f3 (by simp) (by simp)) f4 (by simp) (by simp)) f5 (by simp) (by simp)
  · rw [hst.1 j hj, e41 5 (by omega) (by decide) (by decide), b1 j hj]
  · rw [hst.2.1 j hj, e41 9 (by omega) (by decide) (by decide), b2 j hj]
  · rw [ho, er, a6]
  · rw [hA]
    show (autC (z4.1 (rwC s))).1 + 1 = _
    omega
  · rw [hA]
    show (autC (z4.1 (rwC s))).2.1 = _
    rw [er, c2]
  · rw [hA]
    show (autC (z4.1 (rwC s))).2.2.1 = _
    rw [er, c3]
  · rw [hA]
    show (if (j : Int) < (autC (z4.1 (rwC s))).1 then (autC (z4.1 (rwC s))).2.2.2 j else if (j : Int) = (autC (z4.1 (rwC s))).1 then rwF q a r w9 G else fun _ => 0) 3 ≤ 2 ∧ ∀ c : Nat, c < 10 → (if (j : Int) < (autC (z4.1 (rwC s))).1 then (autC (z4.1 (rwC s))).2.2.2 j else if (j : Int) = (autC (z4.1 (rwC s))).1 then rwF q a r w9 G else fun _ => 0) c = _
    rw [hn4]
    by_cases hjk : j < k
    · rw [if_pos (by omega), er]
      obtain ⟨d1, d2⟩ := c4 j hjk
      exact ⟨d1, fun c hc => by rw [d2 c hc, et, hlow _ (by omega)]⟩
    · obtain rfl : j = k := by omega
      rw [if_neg (by omega), if_pos rfl]
      refine ⟨hw.2, fun c hc => ?_⟩
      rw [et]
      unfold rwF
      by_cases d0 : c = 0
      · subst d0; rw [if_pos rfl]; exact hrow.1.symm
      rw [if_neg d0]
      by_cases d1 : c = 1
      · subst d1; rw [if_pos rfl]; exact hrow.2.1.symm
      rw [if_neg d1]
      by_cases d2 : c = 2
      · subst d2; rw [if_pos rfl]; exact hrow.2.2.1.symm
      rw [if_neg d2]
      by_cases d3 : c = 3
      · subst d3; rw [if_pos rfl]; exact hrow.2.2.2.symm
      rw [if_neg d3]
      by_cases d4 : c < 4 + 3 * w9.toNat
      · rw [if_pos d4, hG (c - 4) (by omega), show 10 * j + 4 + (c - 4) = 10 * j + c by omega]
      · rw [if_neg d4, show 10 * j + c = 10 * j + 4 + (c - 4) by omega, h0 (c - 4) (by omega) (by omega)]
  · rw [et]
    exact hhi c (by omega)
theorem apC_rng {z : pvM} {x : Int} (h : pvRng z) (h1 : pvR x) (h2 : pvR (z.1 17 1 + 1)) : pvRng (apC z x) := by
  intro i k
  show pvR (pvUp (pvUp z.1 18 (z.1 17 1).toNat x) 17 1 (z.1 17 1 + 1) i k)
  unfold pvUp
  split
  · exact h2
  · split
    · exact h1
    · exact h i k
theorem apL_rng (xs : List Nat) : ∀ {z : pvM}, pvRng z → (∀ x ∈ xs, x ≤ 126) → 0 ≤ z.1 17 1 → z.1 17 1 + xs.length ≤ 1000 → pvRng (apL z xs) := by
  induction xs with
  | nil => exact fun h _ _ _ => h
  | cons x t ih =>
    intro z h hx h0 hn
    rw [List.length_cons] at hn
    refine ih (apC_rng h ?_ ?_) (fun y hy => hx y (List.mem_cons_of_mem _ hy)) ?_ ?_
    · have := hx x List.mem_cons_self
      unfold pvR
      omega
    · unfold pvR
      omega
    · rw [apC_n]; omega
    · rw [apC_n]; omega
theorem pvTx.narrow {A B : Nat → Prop} {U : State} (h : pvTx A U) (hAB : ∀ q, B q → A q) : pvTx B U := by
  obtain ⟨⟨adK, adV, h1, h2⟩, h3, h4, dg, h5, h6⟩ := h
  exact ⟨⟨adK, adV, h1.narrow hAB, h2⟩, h3.narrow hAB, h4.narrow hAB, dg, h5.narrow hAB, h6.narrow hAB⟩
theorem pvScOk.narrow {sx : pvSx} {A B : Nat → Prop} {U : State} (h : pvScOk sx A U) (hAB : ∀ q, B q → A q) : pvScOk sx B U := by
  obtain ⟨h1, h2, h3, h4⟩ := h
  exact ⟨h1, h2, h3, fun h => h4 (hAB _ h)⟩
theorem pvWc.narrow {D : va_G} {cI cJ cD : ClassId} {sx : pvSx} {A B : Nat → Prop} {U : State} (h : pvWc D cI cJ cD sx A U) (hAB : ∀ q, B q → A q) (hB : ∀ q, U.heap.size ≤ q → B q) : pvWc D cI cJ cD sx B U := by
  obtain ⟨h1, h2, h3, h4, h5, h6, h7, h8, h9, h10⟩ := h
  exact ⟨h1, hB, h3.narrow hAB, h4.narrow hAB, h5, h6, h7, h8, h9.narrow hAB, h10.narrow hAB⟩
