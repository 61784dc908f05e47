/-! the law's invariant -/
def aiF (z : pvM) : Prop := ∀ s : Int, 0 ≤ s ∧ s ≤ 1 → autC (z.1 (rwC s)) = autR (z.1 40) s ∧ WfC (z.1 (rwC s))
def tiF (z : pvM) : Prop := (z.1 17 1 = z.1 39 10 ∧ z.1 17 4 = z.1 39 12 ∧ 0 ≤ z.1 17 1 ∧ z.1 17 1 ≤ 30) ∧ ∀ j : Nat, (j : Int) < z.1 17 1 → z.1 18 j = z.1 45 j ∧ 33 ≤ z.1 18 j ∧ z.1 18 j ≤ 126
def wiF (z : pvM) : Prop := WvF z.1 ∧ z.1 20 4 = z.1 39 7 ∧ ∀ j : Nat, (j : Int) < z.1 20 4 → z.1 21 j = z.1 43 j ∧ z.1 22 j = z.1 44 j
/-- where the ring keeps the j-th past state -/
def rgF (n c j : Int) : Nat := ((n + 8 - c + j) % 8).toNat
def hrF (z : pvM) : Prop := (hiF z ∧ z.1 36 3 = z.1 39 3) ∧ ∀ (j : Nat) (s : Nat), (j : Int) < z.1 36 3 → s < 2 → autC (fun k => z.1 37 (346 * rgF (z.1 36 2) (z.1 36 3) j + 173 * s + k)) = autR (fun k => z.1 42 (326 * j + k)) s ∧ WfC (fun k => z.1 37 (346 * rgF (z.1 36 2) (z.1 36 3) j + 173 * s + k))
def kpF (z : pvM) : Prop := (z.1 36 4 = z.1 39 4 ∧ (z.1 36 4 = 0 ∨ z.1 36 4 = 1)) ∧ ∀ s : Nat, z.1 36 4 = 1 → s < 2 → autC (fun k => z.1 38 (173 * s + k)) = autR (z.1 41) s ∧ WfC (fun k => z.1 38 (173 * s + k))
def lwI (z : pvM) : Prop := aiF z ∧ tiF z ∧ wiF z ∧ hrF z ∧ kpF z ∧ pzF z ∧ (∃ L, quF z L) ∧ psS z 13 emA ∧ smP z
/-- cells that the invariant does not speak of, or that pzF and quF speak of -/
def frI (x : Nat) : Prop := x ∉ [2, 4, 13, 14, 17, 18, 20, 21, 22, 23, 36, 37, 38, 40, 41, 42, 43, 44, 45, 52]
theorem lwI_m {z z' : pvM} {ids jds : List Nat} (h : lwI z) (f : frF ids jds z z') (hi : ∀ x ∈ ids, frI x) (k : ∀ j, (j = 3 ∨ j = 4 ∨ j = 7 ∨ j = 10 ∨ j = 12) → z'.1 39 j = z.1 39 j) (hp : pzF z') (hq : ∃ L, quF z' L) : lwI z' := by
  obtain ⟨a, t, w, r, p, -, -, e, m⟩ := h
  have g : ∀ x, x ∈ [2, 4, 13, 14, 17, 18, 20, 21, 22, 23, 36, 37, 38, 40, 41, 42, 43, 44, 45, 52] → z'.1 x = z.1 x := fun x hx => f.1 x (fun hm => hi x hm hx)
  have k3 := k 3 (by decide)
  have k4 := k 4 (by decide)
  have k7 := k 7 (by decide)
  have k10 := k 10 (by decide)
  have k12 := k 12 (by decide)
  refine ⟨?_, ?_, ?_, ?_, ?_, hp, hq, psS_e e (g 13 (by decide)) (g 14 (by decide)), ?_⟩
  · intro s hs
    have hr : rwC s = 2 ∨ rwC s = 4 := by unfold rwC; split <;> simp
    rw [g 40 (by decide), show z'.1 (rwC s) = z.1 (rwC s) from by rcases hr with q | q <;> rw [q] <;> exact g _ (by decide)]
    exact a s hs
  · unfold tiF
    rw [g 17 (by decide), g 18 (by decide), g 45 (by decide), k10, k12]
    exact t
  · unfold wiF WvF WcF at *
    rw [g 20 (by decide), g 21 (by decide), g 22 (by decide), g 23 (by decide), g 43 (by decide), g 44 (by decide), k7]
    exact w
  · unfold hrF hiF at *
    rw [g 36 (by decide), g 37 (by decide), g 42 (by decide), k3]
    exact r
  · unfold kpF
    rw [g 36 (by decide), g 38 (by decide), g 41 (by decide), k4]
    exact p
  · unfold smP
    rw [g 52 (by decide)]
    exact m
