/-! the law: the calls that change something, class and reference side by side -/
theorem frF_w {ids jds ids' jds' : List Nat} {z z' : pvM} (f : frF ids jds z z') (h : ∀ x ∈ ids, x ∈ ids') (h' : ∀ x ∈ jds, x ∈ jds') : frF ids' jds' z z' := frF_t frF_0 f h h'
theorem rt_x {z : pvM} (t : tiF z) : rtF (z.1 45) (z.1 39 10) = rtF (z.1 18) (z.1 17 1) := by
  have e : chF (z.1 45) (z.1 39 10) = chF (z.1 18) (z.1 17 1) := by
    funext i
    unfold chF
    rw [← t.1.1]
    split
    · rename_i q
      exact (t.2 i q).1.symm
    · rfl
  unfold rtF
  rw [e, ← t.1.1]
theorem ti_k {z w : pvM} (t : tiF z) (e1 : w.1 17 1 = z.1 17 1) (e4 : w.1 17 4 = z.1 17 4) (e18 : w.1 18 = z.1 18) (e45 : w.1 45 = z.1 45) (k10 : w.1 39 10 = z.1 39 10) (k12 : w.1 39 12 = z.1 39 12) : tiF w := by
  unfold tiF
  rw [e1, e4, e18, e45, k10, k12]
  exact t
theorem ti_ap {z w : pvM} {c : Int} (t : tiF z) (hc : 33 ≤ c ∧ c ≤ 126) (hn : z.1 17 1 ≠ 30) (e1 : w.1 17 1 = z.1 17 1 + 1) (e4 : w.1 17 4 = z.1 17 4) (e18 : ∀ j, w.1 18 j = if j = (z.1 17 1).toNat then c else z.1 18 j) (e45 : ∀ j, w.1 45 j = if j = (z.1 39 10).toNat then c else z.1 45 j) (k10 : w.1 39 10 = z.1 39 10 + 1) (k12 : w.1 39 12 = z.1 39 12) : tiF w := by
  obtain ⟨⟨t1, t2, t3, t4⟩, t5⟩ := t
  refine ⟨⟨by omega, by omega, by omega, by omega⟩, fun j hj => ?_⟩
  rw [e18, e45, ← t1]
  by_cases q : j = (z.1 17 1).toNat
  · rw [if_pos q, if_pos q]
    exact ⟨rfl, hc⟩
  · rw [if_neg q, if_neg q]
    exact t5 j (by omega)
/-- a read text: empty on both sides, the faults alike -/
theorem ti_rd {z w : pvM} (t : tiF z) (e1 : w.1 17 1 = 0) (e4 : w.1 17 4 = (rtF (z.1 18) (z.1 17 1)).1) (k10 : w.1 39 10 = 0) (k12 : w.1 39 12 = (rtF (z.1 45) (z.1 39 10)).1) : tiF w := by
  refine ⟨⟨by rw [e1, k10], by rw [e4, k12, rt_x t], by omega, by omega⟩, fun j hj => by omega⟩
theorem lwI_x {z z' : pvM} {ids jds : List Nat} (h : lwI z) (f : frF ids jds z z') (hi : ∀ x ∈ ids, x ∈ [17, 18, 19, 39, 45, 46]) (k : ∀ j, (j = 3 ∨ j = 4 ∨ j = 7) → z'.1 39 j = z.1 39 j) (t : tiF z') : lwI z' := by
  obtain ⟨a, -, w, r, p, q, u, e, m⟩ := h
  have g : ∀ x, x ∉ [17, 18, 19, 39, 45, 46] → z'.1 x = z.1 x := fun x hx => f.1 x (fun hm => hx (hi x hm))
  have k3 := k 3 (by decide)
  have k4 := k 4 (by decide)
  have k7 := k 7 (by decide)
  refine ⟨?_, t, ?_, ?_, ?_, pz_m q f (fun x hx => by have := hi x hx; simp at this; omega), ?_, psS_e e (g 13 (by decide)) (g 14 (by decide)), ?_⟩
  · intro s hs
    have hr : rwC s = 2 ∨ rwC s = 4 := by unfold rwC; split <;> simp
    rw [g 40 (by decide), show z'.1 (rwC s) = z.1 (rwC s) from by rcases hr with q | q <;> rw [q] <;> exact g _ (by decide)]
    exact a s hs
  · unfold wiF WvF WcF at *
    rw [g 20 (by decide), g 21 (by decide), g 22 (by decide), g 23 (by decide), g 43 (by decide), g 44 (by decide), k7]
    exact w
  · unfold hrF hiF at *
    rw [g 36 (by decide), g 37 (by decide), g 42 (by decide), k3]
    exact r
  · unfold kpF
    rw [g 36 (by decide), g 38 (by decide), g 41 (by decide), k4]
    exact p
  · obtain ⟨L, hL⟩ := u
    exact ⟨L, quF_e hL (g 28 (by decide)) (g 29 (by decide)) (g 30 (by decide))⟩
  · unfold smP
    rw [g 52 (by decide)]
    exact m
theorem lwI_w {z z' : pvM} {ids jds : List Nat} (h : lwI z) (f : frF ids jds z z') (hi : ∀ x ∈ ids, x ∈ [5, 6, 7, 8, 9, 10, 11, 12, 20, 21, 22, 23, 28, 29, 30, 31, 32, 39, 43, 44, 48, 53, 54, 55]) (k : ∀ j, (j = 3 ∨ j = 4 ∨ j = 10 ∨ j = 12) → z'.1 39 j = z.1 39 j) (w : wiF z') (hp : pzF z') (hq : ∃ L, quF z' L) : lwI z' := by
  obtain ⟨a, t, -, r, p, -, -, e, m⟩ := h
  have g : ∀ x, x ∉ [5, 6, 7, 8, 9, 10, 11, 12, 20, 21, 22, 23, 28, 29, 30, 31, 32, 39, 43, 44, 48, 53, 54, 55] → z'.1 x = z.1 x := fun x hx => f.1 x (fun hm => hx (hi x hm))
  have k3 := k 3 (by decide)
  have k4 := k 4 (by decide)
  have k10 := k 10 (by decide)
  have k12 := k 12 (by decide)
  refine ⟨?_, ?_, w, ?_, ?_, hp, hq, psS_e e (g 13 (by decide)) (g 14 (by decide)), ?_⟩
  · intro s hs
    have hr : rwC s = 2 ∨ rwC s = 4 := by unfold rwC; split <;> simp
    rw [g 40 (by decide), show z'.1 (rwC s) = z.1 (rwC s) from by rcases hr with q | q <;> rw [q] <;> exact g _ (by decide)]
    exact a s hs
  · exact ti_k t (by rw [g 17 (by decide)]) (by rw [g 17 (by decide)]) (g 18 (by decide)) (g 45 (by decide)) k10 k12
  · unfold hrF hiF at *
    rw [g 36 (by decide), g 37 (by decide), g 42 (by decide), k3]
    exact r
  · unfold kpF
    rw [g 36 (by decide), g 38 (by decide), g 41 (by decide), k4]
    exact p
  · unfold smP
    rw [g 52 (by decide)]
    exact m
theorem lw_chg {z y w : pvM} {b : (Nat → Nat → Int) × (Nat → Nat → UInt64)} (h : lwI z) (f1 : frF [2, 4, 5, 9, 17, 19, 36, 37] [] z y) (r : reF z y) (st : stF z y) (f2 : frF [39, 40, 42, 46] [] (y.1, b) w) (k4 : w.1 39 4 = z.1 39 4) (k7 : w.1 39 7 = z.1 39 7) (c : chgF (y.1, b) w) (ai : aiF w) (ti : tiF w) : lwI w := by
  obtain ⟨a, t, wi, hr, kp, q, u, e, m⟩ := h
  have g1 : ∀ x, x ∉ [2, 4, 5, 9, 17, 19, 36, 37] → y.1 x = z.1 x := f1.1
  have g2 : ∀ x, x ∉ [39, 40, 42, 46] → w.1 x = y.1 x := f2.1
  have g : ∀ x, x ∉ [2, 4, 5, 9, 17, 19, 36, 37, 39, 40, 42, 46] → w.1 x = z.1 x := fun x hx => by
    rw [g2 x (fun hm => hx (by simp at hm ⊢; omega)), g1 x (fun hm => hx (by simp at hm ⊢; omega))]
  have r' : reF z w := by
    unfold reF at *
    rw [g2 36 (by decide), g2 37 (by decide)]
    exact r
  have c' : chgF z w := by
    unfold chgF at *
    rw [← g1 39 (by decide), ← g1 40 (by decide), ← g1 42 (by decide)]
    exact c
  have st' : stF z w := by
    unfold stF at *
    rw [g2 5 (by decide), g2 9 (by decide)]
    exact st
  refine ⟨ai, ti, ?_, hr_ch a hr r' c', ?_, pz_st ai st', ?_, psS_e e (g 13 (by decide)) (g 14 (by decide)), ?_⟩
  · unfold wiF WvF WcF at *
    rw [g 20 (by decide), g 21 (by decide), g 22 (by decide), g 23 (by decide), g 43 (by decide), g 44 (by decide), k7]
    exact wi
  · have r4 := r'.1 4 (by decide) (by decide)
    unfold kpF
    rw [r4, g 38 (by decide), g 41 (by decide), k4]
    exact kp
  · obtain ⟨L, hL⟩ := u
    exact ⟨L, quF_e hL (g 28 (by decide)) (g 29 (by decide)) (g 30 (by decide))⟩
  · unfold smP
    rw [g 52 (by decide)]
    exact m
theorem lw_ai {z y w : pvM} {b : (Nat → Nat → Int) × (Nat → Nat → UInt64)} {s : Int} {op : Aut → Aut} (a : aiF z) (f2 : frF [39, 40, 42, 46] [] (y.1, b) w) (hs : 0 ≤ s ∧ s ≤ 1)
    (e1 : autC (y.1 (rwC s)) = op (autC (z.1 (rwC s)))) (w1 : WfC (y.1 (rwC s))) (e2 : y.1 (rwC (1 - s)) = z.1 (rwC (1 - s))) (g1 : autR (w.1 40) s = op (autR (z.1 40) s)) (g2 : ∀ s' : Int, 0 ≤ s' ∧ s' ≤ 1 → s' ≠ s → autR (w.1 40) s' = autR (z.1 40) s') : aiF w := by
  intro s' hs'
  have hr : rwC s' = 2 ∨ rwC s' = 4 := by unfold rwC; split <;> simp
  have ew : w.1 (rwC s') = y.1 (rwC s') := f2.1 _ (by rcases hr with q | q <;> rw [q] <;> decide)
  rw [ew]
  by_cases q : s' = s
  · subst q
    rw [e1, g1, (a s' hs').1]
    exact ⟨rfl, w1⟩
  · obtain rfl : s' = 1 - s := by omega
    rw [g2 _ hs' q, e2]
    exact a _ hs'
theorem lw_op {z y w : pvM} {b : (Nat → Nat → Int) × (Nat → Nat → UInt64)} {s : Int} (op : Aut → Aut) (h : lwI z) (hs : 0 ≤ s ∧ s ≤ 1) (f1 : frF [2, 4, 5, 9, 36, 37] [] z y) (r : reF z y) (st : stF z y) (e1 : autC (y.1 (rwC s)) = op (autC (z.1 (rwC s)))) (w1 : WfC (y.1 (rwC s))) (e2 : y.1 (rwC (1 - s)) = z.1 (rwC (1 - s)))
    (f2 : frF [39, 40, 42] [] (y.1, b) w) (k : ∀ j, j ≠ 3 → j ≠ 8 → w.1 39 j = z.1 39 j) (c : chgF (y.1, b) w) (g1 : autR (w.1 40) s = op (autR (z.1 40) s)) (g2 : ∀ s' : Int, 0 ≤ s' ∧ s' ≤ 1 → s' ≠ s → autR (w.1 40) s' = autR (z.1 40) s') : lwI w := by
  have f2' : frF [39, 40, 42, 46] [] (y.1, b) w := frF_w f2 (by simp) (by simp)
  have g2' : ∀ x, x ∉ [39, 40, 42] → w.1 x = y.1 x := f2.1
  have g : ∀ x, x ∉ [2, 4, 5, 9, 36, 37, 39, 40, 42] → w.1 x = z.1 x := fun x hx => by
    rw [g2' x (fun hm => hx (by simp at hm ⊢; omega)), f1.1 x (fun hm => hx (by simp at hm ⊢; omega))]
  exact lw_chg h (frF_w f1 (by simp) (by simp)) r st f2' (k 4 (by decide) (by decide)) (k 7 (by decide) (by decide)) c (lw_ai h.1 f2' hs e1 w1 e2 g1 g2)
    (ti_k h.2.1 (by rw [g 17 (by decide)]) (by rw [g 17 (by decide)]) (g 18 (by decide)) (g 45 (by decide)) (k 10 (by decide) (by decide)) (k 12 (by decide) (by decide)))
theorem lw_cp {z y w : pvM} {b : (Nat → Nat → Int) × (Nat → Nat → UInt64)} {s : Int} (h : lwI z) (hs : 0 ≤ s ∧ s ≤ 1) (f1 : frF [2, 4, 5, 9, 36, 37] [] z y) (r : reF z y) (st : stF z y) (e1 : ∀ c, c = 2 ∨ c = 4 → autC (y.1 c) = autC (z.1 (rwC s)) ∧ WfC (y.1 c))
    (f2 : frF [39, 40, 42] [] (y.1, b) w) (k : ∀ j, j ≠ 3 → j ≠ 8 → w.1 39 j = z.1 39 j) (c : chgF (y.1, b) w) (g1 : ∀ s' : Int, 0 ≤ s' ∧ s' ≤ 1 → autR (w.1 40) s' = autR (z.1 40) s) : lwI w := by
  have f2' : frF [39, 40, 42, 46] [] (y.1, b) w := frF_w f2 (by simp) (by simp)
  have g2' : ∀ x, x ∉ [39, 40, 42] → w.1 x = y.1 x := f2.1
  have g : ∀ x, x ∉ [2, 4, 5, 9, 36, 37, 39, 40, 42] → w.1 x = z.1 x := fun x hx => by
    rw [g2' x (fun hm => hx (by simp at hm ⊢; omega)), f1.1 x (fun hm => hx (by simp at hm ⊢; omega))]
  have ai : aiF w := by
    intro s' hs'
    have hr : rwC s' = 2 ∨ rwC s' = 4 := by unfold rwC; split <;> simp
    have ew : w.1 (rwC s') = y.1 (rwC s') := g2' _ (by rcases hr with q | q <;> rw [q] <;> decide)
    rw [ew, (e1 _ hr).1, g1 s' hs', (h.1 s hs).1]
    exact ⟨rfl, (e1 _ hr).2⟩
  exact lw_chg h (frF_w f1 (by simp) (by simp)) r st f2' (k 4 (by decide) (by decide)) (k 7 (by decide) (by decide)) c ai
    (ti_k h.2.1 (by rw [g 17 (by decide)]) (by rw [g 17 (by decide)]) (g 18 (by decide)) (g 45 (by decide)) (k 10 (by decide) (by decide)) (k 12 (by decide) (by decide)))
theorem lw_ad {z y w : pvM} {b : (Nat → Nat → Int) × (Nat → Nat → UInt64)} {s : Int} (op : Aut → Aut) (h : lwI z) (hs : 0 ≤ s ∧ s ≤ 1) (f1 : frF [2, 4, 5, 9, 17, 19, 36, 37] [] z y) (r : reF z y) (st : stF z y) (e1 : autC (y.1 (rwC s)) = op (autC (z.1 (rwC s)))) (w1 : WfC (y.1 (rwC s))) (e2 : y.1 (rwC (1 - s)) = z.1 (rwC (1 - s)))
    (f2 : frF [39, 40, 42, 46] [] (y.1, b) w) (k : ∀ j, j ≠ 3 → j ≠ 8 → j ≠ 10 → j ≠ 11 → j ≠ 12 → j ≠ 14 → w.1 39 j = z.1 39 j) (c : chgF (y.1, b) w) (g1 : autR (w.1 40) s = op (autR (z.1 40) s)) (g2 : ∀ s' : Int, 0 ≤ s' ∧ s' ≤ 1 → s' ≠ s → autR (w.1 40) s' = autR (z.1 40) s')
    (t1 : y.1 17 1 = 0) (t4 : y.1 17 4 = (rtF (z.1 18) (z.1 17 1)).1) (k10 : w.1 39 10 = 0) (k12 : w.1 39 12 = (rtF (z.1 45) (z.1 39 10)).1) : lwI w := by
  have e17 : w.1 17 = y.1 17 := f2.1 17 (by decide)
  exact lw_chg h f1 r st f2 (k 4 (by decide) (by decide) (by decide) (by decide) (by decide) (by decide)) (k 7 (by decide) (by decide) (by decide) (by decide) (by decide) (by decide)) c (lw_ai h.1 f2 hs e1 w1 e2 g1 g2) (ti_rd h.2.1 (by rw [e17, t1]) (by rw [e17, t4]) k10 k12)
theorem lw_rj {z y w : pvM} {b : (Nat → Nat → Int) × (Nat → Nat → UInt64)} (h : lwI z) (f1 : frF [17, 19] [] z y) (f2 : frF [39, 46] [] (y.1, b) w) (k : ∀ j, j ≠ 3 → j ≠ 8 → j ≠ 10 → j ≠ 11 → j ≠ 12 → j ≠ 14 → w.1 39 j = z.1 39 j) (k3 : w.1 39 3 = z.1 39 3)
    (t1 : y.1 17 1 = 0) (t4 : y.1 17 4 = (rtF (z.1 18) (z.1 17 1)).1) (k10 : w.1 39 10 = 0) (k12 : w.1 39 12 = (rtF (z.1 45) (z.1 39 10)).1) : lwI w := by
  have e17 : w.1 17 = y.1 17 := f2.1 17 (by decide)
  have f : frF [17, 19, 39, 46] [] z (w.1, z.2) := by
    refine ⟨fun x hx => ?_, fun _ _ => rfl, rfl⟩
    have q1 : w.1 x = y.1 x := f2.1 x (fun hm => hx (by simp at hm ⊢; omega))
    show w.1 x = z.1 x
    rw [q1, f1.1 x (fun hm => hx (by simp at hm ⊢; omega))]
  refine lwI_x (z' := (w.1, z.2)) h f (by simp) (fun j hj => ?_) (ti_rd (w := (w.1, z.2)) h.2.1 (by show w.1 17 1 = 0; rw [e17, t1]) (by show w.1 17 4 = _; rw [e17, t4]) k10 k12)
  rcases hj with rfl | rfl | rfl
  · exact k3
  · exact k 4 (by decide) (by decide) (by decide) (by decide) (by decide) (by decide)
  · exact k 7 (by decide) (by decide) (by decide) (by decide) (by decide) (by decide)
theorem lw_wit {z y w : pvM} {b : (Nat → Nat → Int) × (Nat → Nat → UInt64)} {F : Nat} {gd gl : Nat → Int} (h : lwI z) (f1 : frF [5, 6, 7, 8, 9, 10, 11, 12, 20, 21, 22, 23, 28, 29, 30, 31, 32] [] z y) (wv : WvF y.1) (e4 : y.1 20 4 = (F : Int)) (pz : pzF y) (qu : ∃ L, quF y L)
    (f2 : frF [39, 43, 44, 48, 53, 54, 55] [] (y.1, b) w) (se : seF2 (y.1, b) w) (e7 : w.1 39 7 = (F : Int)) (hj : ∀ j : Nat, j < F → y.1 21 j = gd j ∧ y.1 22 j = gl j) (hk : ∀ j : Nat, j < F → w.1 43 j = gd j ∧ w.1 44 j = gl j) : lwI w := by
  have g2 : ∀ x, x ∉ [39, 43, 44, 48, 53, 54, 55] → w.1 x = y.1 x := f2.1
  have f : frF [5, 6, 7, 8, 9, 10, 11, 12, 20, 21, 22, 23, 28, 29, 30, 31, 32, 39, 43, 44, 48, 53, 54, 55] [] z (w.1, z.2) := by
    refine ⟨fun x hx => ?_, fun _ _ => rfl, rfl⟩
    show w.1 x = z.1 x
    rw [g2 x (fun hm => hx (by simp at hm ⊢; omega)), f1.1 x (fun hm => hx (by simp at hm ⊢; omega))]
  have k : ∀ j, (j = 3 ∨ j = 4 ∨ j = 10 ∨ j = 12) → w.1 39 j = z.1 39 j := by
    intro j hj9
    have e39 : y.1 39 = z.1 39 := f1.1 39 (by decide)
    rw [← e39]
    rcases hj9 with rfl | rfl | rfl | rfl <;> exact se _ (by decide) (by decide) (by decide) (by decide) (by decide)
  refine lwI_w (z' := (w.1, z.2)) h f (by simp) k ⟨?_, ?_, ?_⟩ (pz_m (z := (y.1, b)) (z' := w) pz f2 (by simp)) ?_
  · unfold WvF WcF at *
    show (WdF (w.1 20 4) (w.1 21) (w.1 22) ∧ _) ∧ _
    simp only [g2 20 (by decide), g2 21 (by decide), g2 22 (by decide), g2 23 (by decide)]
    exact wv
  · show w.1 20 4 = w.1 39 7
    rw [g2 20 (by decide), e4, e7]
  · intro j hj9
    show w.1 21 j = w.1 43 j ∧ w.1 22 j = w.1 44 j
    have hj8 : (j : Int) < w.1 20 4 := hj9
    rw [g2 20 (by decide), e4] at hj8
    rw [g2 21 (by decide), g2 22 (by decide), (hj j (by omega)).1, (hj j (by omega)).2, (hk j (by omega)).1, (hk j (by omega)).2]
    exact ⟨rfl, rfl⟩
  · obtain ⟨L, hL⟩ := qu
    exact ⟨L, quF_e (z := y) (z' := w) hL (g2 28 (by decide)) (g2 29 (by decide)) (g2 30 (by decide))⟩
theorem lw_un {z y w : pvM} {b : (Nat → Nat → Int) × (Nat → Nat → UInt64)} (h : lwI z) (h0 : z.1 36 3 ≠ 0) (f1 : frF [2, 4, 5, 9, 36] [] z y) (st : stF z y) (q : ∀ j, j ≠ 2 → j ≠ 3 → y.1 36 j = z.1 36 j) (q2 : y.1 36 2 = (z.1 36 2 + 7) % 8) (q3 : y.1 36 3 = z.1 36 3 - 1)
    (c2 : ∀ k : Nat, k < 173 → y.1 2 k = z.1 37 (346 * ((z.1 36 2 + 7) % 8).toNat + k)) (c4 : ∀ k : Nat, k < 173 → y.1 4 k = z.1 37 (346 * ((z.1 36 2 + 7) % 8).toNat + 173 + k))
    (f2 : frF [39, 40] [] (y.1, b) w) (k : ∀ j, j ≠ 3 → j ≠ 8 → w.1 39 j = z.1 39 j) (k3 : w.1 39 3 = z.1 39 3 - 1) (c40 : ∀ k : Nat, k < 326 → w.1 40 k = z.1 42 (326 * (z.1 39 3 - 1).toNat + k)) : lwI w := by
  have g2 : ∀ x, x ∉ [39, 40] → w.1 x = y.1 x := f2.1
  have g : ∀ x, x ∉ [2, 4, 5, 9, 36, 39, 40] → w.1 x = z.1 x := fun x hx => by
    rw [g2 x (fun hm => hx (by simp at hm ⊢; omega)), f1.1 x (fun hm => hx (by simp at hm ⊢; omega))]
  obtain ⟨a, t, wi, hr, kp, pz, u, e, m⟩ := h
  have st' : stF z w := by
    unfold stF at *
    rw [g2 5 (by decide), g2 9 (by decide)]
    exact st
  have hh := hr_un (z := z) (z' := w) hr h0 (by rw [g2 36 (by decide)]; exact q2) (by rw [g2 36 (by decide)]; exact q3) (g 37 (by decide)) k3 (g 42 (by decide)) (by rw [g2 2 (by decide)]; exact c2) (by rw [g2 4 (by decide)]; exact c4) c40
  refine ⟨hh.2, ti_k t (by rw [g 17 (by decide)]) (by rw [g 17 (by decide)]) (g 18 (by decide)) (g 45 (by decide)) (k 10 (by decide) (by decide)) (k 12 (by decide) (by decide)), ?_, hh.1, ?_, pz_st hh.2 st', ?_, psS_e e (g 13 (by decide)) (g 14 (by decide)), ?_⟩
  · unfold wiF WvF WcF at *
    rw [g 20 (by decide), g 21 (by decide), g 22 (by decide), g 23 (by decide), g 43 (by decide), g 44 (by decide), k 7 (by decide) (by decide)]
    exact wi
  · have r4 : w.1 36 4 = z.1 36 4 := by rw [g2 36 (by decide)]; exact q 4 (by decide) (by decide)
    unfold kpF
    rw [r4, g 38 (by decide), g 41 (by decide), k 4 (by decide) (by decide)]
    exact kp
  · obtain ⟨L, hL⟩ := u
    exact ⟨L, quF_e hL (g 28 (by decide)) (g 29 (by decide)) (g 30 (by decide))⟩
  · unfold smP
    rw [g 52 (by decide)]
    exact m
theorem lw_rs {z y w : pvM} {b : (Nat → Nat → Int) × (Nat → Nat → UInt64)} (h : lwI z) (h4 : z.1 36 4 = 1) (f1 : frF [2, 4, 5, 9, 36, 37] [] z y) (r : reF z y) (st : stF z y) (c2 : ∀ k : Nat, k < 173 → y.1 2 k = z.1 38 k) (c4 : ∀ k : Nat, k < 173 → y.1 4 k = z.1 38 (173 + k))
    (f2 : frF [39, 40, 42] [] (y.1, b) w) (k : ∀ j, j ≠ 3 → j ≠ 8 → w.1 39 j = z.1 39 j) (c : chgF (y.1, b) w) (c40 : ∀ k : Nat, k < 326 → w.1 40 k = z.1 41 k) : lwI w := by
  have f2' : frF [39, 40, 42, 46] [] (y.1, b) w := frF_w f2 (by simp) (by simp)
  have g2 : ∀ x, x ∉ [39, 40, 42] → w.1 x = y.1 x := f2.1
  have g : ∀ x, x ∉ [2, 4, 5, 9, 36, 37, 39, 40, 42] → w.1 x = z.1 x := fun x hx => by
    rw [g2 x (fun hm => hx (by simp at hm ⊢; omega)), f1.1 x (fun hm => hx (by simp at hm ⊢; omega))]
  have ai : aiF w := kp_rs (z := z) (z' := w) h.2.2.2.2.1 h4 (by rw [g2 2 (by decide)]; exact c2) (by rw [g2 4 (by decide)]; exact c4) c40
  exact lw_chg h (frF_w f1 (by simp) (by simp)) r st f2' (k 4 (by decide) (by decide)) (k 7 (by decide) (by decide)) c ai
    (ti_k h.2.1 (by rw [g 17 (by decide)]) (by rw [g 17 (by decide)]) (g 18 (by decide)) (g 45 (by decide)) (k 10 (by decide) (by decide)) (k 12 (by decide) (by decide)))
theorem lw_sv {z y w : pvM} {b : (Nat → Nat → Int) × (Nat → Nat → UInt64)} (h : lwI z) (f1 : frF [36, 38] [] z y) (q : ∀ j, j ≠ 4 → y.1 36 j = z.1 36 j) (q4 : y.1 36 4 = 1) (c2 : ∀ k : Nat, k < 173 → y.1 38 k = z.1 2 k) (c4 : ∀ k : Nat, k < 173 → y.1 38 (173 + k) = z.1 4 k)
    (f2 : frF [39, 41] [] (y.1, b) w) (k : ∀ j, j ≠ 4 → j ≠ 8 → w.1 39 j = z.1 39 j) (k4 : w.1 39 4 = 1) (c41 : ∀ k : Nat, k < 326 → w.1 41 k = z.1 40 k) : lwI w := by
  have g2 : ∀ x, x ∉ [39, 41] → w.1 x = y.1 x := f2.1
  have g : ∀ x, x ∉ [36, 38, 39, 41] → w.1 x = z.1 x := fun x hx => by
    rw [g2 x (fun hm => hx (by simp at hm ⊢; omega)), f1.1 x (fun hm => hx (by simp at hm ⊢; omega))]
  obtain ⟨a, t, wi, hr, kp, pz, u, e, m⟩ := h
  have f : frF [36, 38, 39, 41] [] z (w.1, z.2) := ⟨fun x hx => g x hx, fun _ _ => rfl, rfl⟩
  refine ⟨?_, ti_k t (by rw [g 17 (by decide)]) (by rw [g 17 (by decide)]) (g 18 (by decide)) (g 45 (by decide)) (k 10 (by decide) (by decide)) (k 12 (by decide) (by decide)), ?_, ?_, ?_, pz_m (z' := (w.1, z.2)) pz f (by simp), ?_, psS_e e (g 13 (by decide)) (g 14 (by decide)), ?_⟩
  · intro s hs
    have hr : rwC s = 2 ∨ rwC s = 4 := by unfold rwC; split <;> simp
    rw [g 40 (by decide), show w.1 (rwC s) = z.1 (rwC s) from by rcases hr with q | q <;> rw [q] <;> exact g _ (by decide)]
    exact a s hs
  · unfold wiF WvF WcF at *
    rw [g 20 (by decide), g 21 (by decide), g 22 (by decide), g 23 (by decide), g 43 (by decide), g 44 (by decide), k 7 (by decide) (by decide)]
    exact wi
  · have q2 : w.1 36 2 = z.1 36 2 := by rw [g2 36 (by decide)]; exact q 2 (by decide)
    have q3 : w.1 36 3 = z.1 36 3 := by rw [g2 36 (by decide)]; exact q 3 (by decide)
    unfold hrF hiF at *
    rw [q2, q3, g 37 (by decide), g 42 (by decide), k 3 (by decide) (by decide)]
    exact hr
  · exact kp_sv (z := z) (z' := w) a (by rw [g2 36 (by decide)]; exact q4) k4 (by rw [g2 38 (by decide)]; exact c2) (by rw [g2 38 (by decide)]; exact c4) c41
  · obtain ⟨L, hL⟩ := u
    exact ⟨L, quF_e hL (g 28 (by decide)) (g 29 (by decide)) (g 30 (by decide))⟩
  · unfold smP
    rw [g 52 (by decide)]
    exact m
