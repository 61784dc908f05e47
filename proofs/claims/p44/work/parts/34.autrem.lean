theorem pvUp_st {f : Nat → Nat → Int} {i k : Nat} {g : Nat → Int} {v : Int} : pvUp (pvSt f i g) i k v = pvSt f i (fun j => if j = k then v else g j) := by
  funext a b
  unfold pvUp pvSt
  by_cases h : a = i
  · subst h
    simp
  · simp [h]
theorem pvSt_self {f : Nat → Nat → Int} {i : Nat} : pvSt f i (f i) = f := by
  funext a b
  unfold pvSt
  split
  · rename_i h
    rw [h]
  · rfl
theorem cT_0 {g : Nat → Int} {v : Int} {t c T C : Nat} (hC : C < 17) (hc : c < 17) : cT (fun j => if j = 3 + 17 * T + C then v else g j) t c = if t = T ∧ c = C then v else cT g t c := by
  show (if 3 + 17 * t + c = 3 + 17 * T + C then v else g (3 + 17 * t + c)) = if t = T ∧ c = C then v else g (3 + 17 * t + c)
  by_cases h : t = T ∧ c = C
  · rw [if_pos h, if_pos (by omega)]
  · rw [if_neg h, if_neg (by omega)]
