theorem pvUp_st {f : Nat → Nat → Int} {i k : Nat} {g : Nat → Int} {v : Int} : pvUp (pvSt f i g) i k v = pvSt f i (fun j => if j = k then v else g j) := by
  funext a b
  unfold pvUp pvSt
  by_cases h : a = i
  · subst h
    simp
  · simp [h]
theorem pvSt_self {f : Nat → Nat → Int} {i : Nat} : pvSt f i (f i) = f := by
  funext a b
  unfold pvSt
  split
  · rename_i h
    rw [h]
  · rfl
theorem cT_0 {g : Nat → Int} {v : Int} {t c T C : Nat} (hC : C < 17) (hc : c < 17) : cT (fun j => if j = 3 + 17 * T + C then v else g j) t c = if t = T ∧ c = C then v else cT g t c := by
  show (if 3 + 17 * t + c = 3 + 17 * T + C then v else g (3 + 17 * t + c)) = if t = T ∧ c = C then v else g (3 + 17 * t + c)
  by_cases h : t = T ∧ c = C
  · rw [if_pos h, if_pos (by omega)]
  · rw [if_neg h, if_neg (by omega)]
/-- what a row holds when the rows from t0 to k, and of row k the first c cells, have moved up -/
def rmI (f : Nat → Int) (t0 : Nat) (g : Nat → Int) (k c : Nat) : Prop :=
  (∀ j, j < 3 → g j = f j) ∧ ∀ t' c' : Nat, c' < 17 → cT g t' c' = if t0 ≤ t' ∧ (t' < k ∨ t' = k ∧ c' < c) then cT f (t' + 1) c' else cT f t' c'
theorem rmI_s {f g : Nat → Int} {t0 k c : Nat} (h : rmI f t0 g k c) (h0 : t0 ≤ k) (hc : c < 17) : rmI f t0 (fun j => if j = 3 + 17 * k + c then cT g (k + 1) c else g j) k (c + 1) := by
  refine ⟨fun j hj => ?_, fun t' c' hc' => ?_⟩
  · show (if j = 3 + 17 * k + c then _ else _) = _
    rw [if_neg (by omega)]
    exact h.1 j hj
  · rw [cT_0 hc hc', h.2 t' c' hc', h.2 (k + 1) c hc]
    by_cases e : t' = k ∧ c' = c
    · obtain ⟨rfl, rfl⟩ := e
      rw [if_pos ⟨rfl, rfl⟩, if_neg (by omega), if_pos (by omega)]
    · rw [if_neg e]
      by_cases q : t0 ≤ t' ∧ (t' < k ∨ t' = k ∧ c' < c)
      · rw [if_pos q, if_pos (by omega)]
      · rw [if_neg q, if_neg (by omega)]
theorem rmI_n {f g : Nat → Int} {t0 k c : Nat} (h : rmI f t0 g k c) (hc : 17 ≤ c) : rmI f t0 g (k + 1) 0 := by
  refine ⟨h.1, fun t' c' hc' => ?_⟩
  rw [h.2 t' c' hc']
  by_cases q : t0 ≤ t' ∧ (t' < k ∨ t' = k ∧ c' < c)
  · rw [if_pos q, if_pos (by omega)]
  · rw [if_neg q, if_neg (by omega)]
