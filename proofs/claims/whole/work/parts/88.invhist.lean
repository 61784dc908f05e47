/-! the law's invariant: the past -/
theorem rg_r {n c j : Int} (hn : 0 ≤ n ∧ n ≤ 7) (hc : 0 ≤ c ∧ c ≤ 8) (hj : 0 ≤ j) : rgF n c j < 8 := by
  unfold rgF
  omega
theorem hr_ch {z z' : pvM} (a : aiF z) (h : hrF z) (r : reF z z') (c : chgF z z') : hrF z' := by
  obtain ⟨⟨⟨hn, hc⟩, e3⟩, hr⟩ := h
  obtain ⟨-, r2, r3, r4, r5, r6⟩ := r
  obtain ⟨c1, c2, c3⟩ := c
  rw [← e3] at c1 c2
  have e3' : z'.1 36 3 = z'.1 39 3 := by rw [r3, c1]
  have hc' : 0 ≤ z'.1 36 3 ∧ z'.1 36 3 ≤ 8 := by rw [r3]; split <;> omega
  have hc1 : 1 ≤ z'.1 36 3 := by rw [r3]; split <;> omega
  have hn' : 0 ≤ z'.1 36 2 ∧ z'.1 36 2 ≤ 7 := by rw [r2]; omega
  refine ⟨⟨⟨hn', hc'⟩, e3'⟩, fun j s hj hs => ?_⟩
  have as := a s (by omega)
  by_cases hl : (j : Int) = z'.1 36 3 - 1
  · have erg : rgF (z'.1 36 2) (z'.1 36 3) j = (z.1 36 2).toNat := by
      unfold rgF
      rw [hl, r2]
      omega
    rw [erg]
    have ej : j = (z'.1 39 3 - 1).toNat := by omega
    have x1 := autC_ext (f := z.1 (rwC s)) (f' := fun k => z'.1 37 (346 * (z.1 36 2).toNat + 173 * s + k)) as.2 (fun k hk => by
      rcases (show s = 0 ∨ s = 1 by omega) with rfl | rfl
      · show z'.1 37 (346 * (z.1 36 2).toNat + 173 * 0 + k) = z.1 2 k
        rw [← r4 k hk, Nat.mul_zero, Nat.add_zero]
      · show z'.1 37 (346 * (z.1 36 2).toNat + 173 * 1 + k) = z.1 4 k
        rw [← r5 k hk])
    have wr : WfA (autR (z.1 40) (s : Int)) := by rw [← as.1]; exact as.2.1
    have x2 := autR_ext (f := z.1 40) (f' := fun k => z'.1 42 (326 * j + k)) (s := (s : Int)) (s' := (s : Int)) wr (fun k hk => by
      show z'.1 42 (326 * j + (163 * (s : Int).toNat + k)) = _
      rw [ej]
      exact c3 _ (by omega))
    exact ⟨by rw [x1.1, x2]; exact as.1, x1.2⟩
  · obtain ⟨j0, e0, ej0⟩ : ∃ j0 : Nat, (j0 : Int) < z.1 36 3 ∧ j0 = (if z.1 36 3 = 8 then j + 1 else j) := by
      refine ⟨_, ?_, rfl⟩
      rw [r3] at hj hl
      split <;> rename_i q <;> simp only [q, if_true, if_false] at hj hl <;> omega
    have erg : rgF (z'.1 36 2) (z'.1 36 3) j = rgF (z.1 36 2) (z.1 36 3) j0 ∧ rgF (z.1 36 2) (z.1 36 3) j0 ≠ (z.1 36 2).toNat := by
      unfold rgF
      rw [r2, r3, ej0]
      split <;> omega
    rw [erg.1]
    have old := hr j0 s e0 hs
    have hsl := rg_r (n := z.1 36 2) (c := z.1 36 3) (j := j0) hn hc (by omega)
    obtain ⟨sl, esl⟩ : ∃ sl, rgF (z.1 36 2) (z.1 36 3) j0 = sl := ⟨_, rfl⟩
    rw [esl] at erg old hsl ⊢
    have x1 := autC_ext (f := fun k => z.1 37 (346 * sl + 173 * s + k)) (f' := fun k => z'.1 37 (346 * sl + 173 * s + k)) old.2 (fun k hk => r6 _ (by omega))
    have wr : WfA (autR (fun k => z.1 42 (326 * j0 + k)) (s : Int)) := by rw [← old.1]; exact old.2.1
    have x2 := autR_ext (f := fun k => z.1 42 (326 * j0 + k)) (f' := fun k => z'.1 42 (326 * j + k)) (s := (s : Int)) (s' := (s : Int)) wr (fun k hk => by
      show z'.1 42 (326 * j + (163 * (s : Int).toNat + k)) = z.1 42 (326 * j0 + (163 * (s : Int).toNat + k))
      rw [ej0]
      exact c2 j _ (by rw [← e3']; omega) (by omega))
    exact ⟨by rw [x1.1, x2]; exact old.1, x1.2⟩
theorem hr_un {z z' : pvM} (h : hrF z) (h0 : z.1 36 3 ≠ 0) (q2 : z'.1 36 2 = (z.1 36 2 + 7) % 8) (q3 : z'.1 36 3 = z.1 36 3 - 1) (q37 : z'.1 37 = z.1 37) (q39 : z'.1 39 3 = z.1 39 3 - 1) (q42 : z'.1 42 = z.1 42)
    (f2 : ∀ k : Nat, k < 173 → z'.1 2 k = z.1 37 (346 * ((z.1 36 2 + 7) % 8).toNat + k)) (f4 : ∀ k : Nat, k < 173 → z'.1 4 k = z.1 37 (346 * ((z.1 36 2 + 7) % 8).toNat + 173 + k)) (f40 : ∀ k : Nat, k < 326 → z'.1 40 k = z.1 42 (326 * (z.1 39 3 - 1).toNat + k)) : hrF z' ∧ aiF z' := by
  obtain ⟨⟨⟨hn, hc⟩, e3⟩, hr⟩ := h
  refine ⟨⟨⟨⟨by rw [q2]; omega, by rw [q3]; omega⟩, by rw [q3, q39, e3]⟩, fun j s hj hs => ?_⟩, fun s hs => ?_⟩
  · have erg : rgF (z'.1 36 2) (z'.1 36 3) j = rgF (z.1 36 2) (z.1 36 3) j := by
      unfold rgF
      rw [q2, q3]
      omega
    rw [erg, q37, q42]
    exact hr j s (by omega) hs
  · obtain ⟨j, ej⟩ : ∃ j : Nat, (j : Int) = z.1 36 3 - 1 := ⟨(z.1 36 3 - 1).toNat, by omega⟩
    have erg : rgF (z.1 36 2) (z.1 36 3) j = ((z.1 36 2 + 7) % 8).toNat := by
      unfold rgF
      omega
    obtain ⟨t, rfl⟩ : ∃ t : Nat, s = t := ⟨s.toNat, by omega⟩
    have old := hr j t (by omega) (by omega)
    rw [erg] at old
    have x1 := autC_ext (f := fun k => z.1 37 (346 * ((z.1 36 2 + 7) % 8).toNat + 173 * t + k)) (f' := z'.1 (rwC t)) old.2 (fun k hk => by
      rcases (show t = 0 ∨ t = 1 by omega) with rfl | rfl
      · show z'.1 2 k = z.1 37 (346 * ((z.1 36 2 + 7) % 8).toNat + 173 * 0 + k)
        rw [f2 k hk, Nat.mul_zero, Nat.add_zero]
      · show z'.1 4 k = z.1 37 (346 * ((z.1 36 2 + 7) % 8).toNat + 173 * 1 + k)
        rw [f4 k hk])
    have wr : WfA (autR (fun k => z.1 42 (326 * j + k)) (t : Int)) := by rw [← old.1]; exact old.2.1
    have x2 := autR_ext (f := fun k => z.1 42 (326 * j + k)) (f' := z'.1 40) (s := (t : Int)) (s' := (t : Int)) wr (fun k hk => by
      rw [f40 _ (by omega), show (z.1 39 3 - 1).toNat = j by omega])
    exact ⟨by rw [x1.1, x2]; exact old.1, x1.2⟩
theorem kp_sv {z z' : pvM} (a : aiF z) (e4 : z'.1 36 4 = 1) (g4 : z'.1 39 4 = 1) (f2 : ∀ k : Nat, k < 173 → z'.1 38 k = z.1 2 k) (f4 : ∀ k : Nat, k < 173 → z'.1 38 (173 + k) = z.1 4 k) (f41 : ∀ k : Nat, k < 326 → z'.1 41 k = z.1 40 k) : kpF z' := by
  refine ⟨⟨by rw [e4, g4], Or.inr e4⟩, fun s _ hs => ?_⟩
  have as := a s (by omega)
  have x1 := autC_ext (f := z.1 (rwC s)) (f' := fun k => z'.1 38 (173 * s + k)) as.2 (fun k hk => by
    rcases (show s = 0 ∨ s = 1 by omega) with rfl | rfl
    · show z'.1 38 (173 * 0 + k) = z.1 2 k
      rw [← f2 k hk, Nat.mul_zero, Nat.zero_add]
    · show z'.1 38 (173 * 1 + k) = z.1 4 k
      rw [← f4 k hk])
  have wr : WfA (autR (z.1 40) (s : Int)) := by rw [← as.1]; exact as.2.1
  have x2 := autR_ext (f := z.1 40) (f' := z'.1 41) (s := (s : Int)) (s' := (s : Int)) wr (fun k hk => f41 _ (by omega))
  exact ⟨by rw [x1.1, x2]; exact as.1, x1.2⟩
theorem kp_rs {z z' : pvM} (p : kpF z) (e4 : z.1 36 4 = 1) (f2 : ∀ k : Nat, k < 173 → z'.1 2 k = z.1 38 k) (f4 : ∀ k : Nat, k < 173 → z'.1 4 k = z.1 38 (173 + k)) (f40 : ∀ k : Nat, k < 326 → z'.1 40 k = z.1 41 k) : aiF z' := by
  intro s hs
  obtain ⟨t, rfl⟩ : ∃ t : Nat, s = t := ⟨s.toNat, by omega⟩
  have old := p.2 t e4 (by omega)
  have x1 := autC_ext (f := fun k => z.1 38 (173 * t + k)) (f' := z'.1 (rwC t)) old.2 (fun k hk => by
    rcases (show t = 0 ∨ t = 1 by omega) with rfl | rfl
    · show z'.1 2 k = z.1 38 (173 * 0 + k)
      rw [f2 k hk, Nat.mul_zero, Nat.zero_add]
    · show z'.1 4 k = z.1 38 (173 * 1 + k)
      rw [f4 k hk])
  have wr : WfA (autR (z.1 41) (t : Int)) := by rw [← old.1]; exact old.2.1
  have x2 := autR_ext (f := z.1 41) (f' := z'.1 40) (s := (t : Int)) (s' := (t : Int)) wr (fun k hk => f40 _ (by omega))
  exact ⟨by rw [x1.1, x2]; exact old.1, x1.2⟩
/-- after a change both caches are off -/
theorem pz_st {z z' : pvM} (a : aiF z') (h : stF z z') : pzF z' := by
  intro s hs
  refine ⟨(a s hs).2, Or.inl ?_, fun q => ?_⟩
  · unfold pwF; split
    · exact h.2.2.1
    · exact h.2.2.2
  · exfalso
    have : z'.1 (pwF s) 6 = 0 := by
      unfold pwF; split
      · exact h.2.2.1
      · exact h.2.2.2
    omega
