theorem autR_same {f f' : Nat → Int} {s s' : Int} (hs : 0 ≤ s ∧ s ≤ 1) (hs' : 0 ≤ s' ∧ s' ≤ 1) (hne : s' ≠ s) (hw : WfA (autR f s')) (h : ∀ j : Nat, ¬ (163 * s ≤ j ∧ j < 163 * s + 163) → f' j = f j) : autR f' s' = autR f s' :=
  autR_ext hw fun k hk => h _ (by omega)
theorem autR_in {f f' : Nat → Int} {s : Int} (h : ∀ j : Nat, j ≠ 163 * s.toNat → f' j = f j) : autR f' s = inA (autR f s) (f' (163 * s.toNat)) := by
  have e : rT f' s = rT f s := by
    funext t c
    exact h _ (by omega)
  unfold autR
  rw [h (163 * s.toNat + 2) (by omega), h (163 * s.toNat + 1) (by omega), e]
  rfl
theorem autR_fi {f f' : Nat → Int} {s : Int} (h : ∀ j : Nat, j ≠ 163 * s.toNat + 1 → f' j = f j) : autR f' s = fiA (autR f s) (f' (163 * s.toNat + 1)) := by
  have e : rT f' s = rT f s := by
    funext t c
    exact h _ (by omega)
  unfold autR
  rw [h (163 * s.toNat + 2) (by omega), h (163 * s.toNat) (by omega), e]
  rfl
/-- a state marked or not -/
def msF (x q on : Int) : Int := if on = 0 then pvAnd x (pvXor (pvShl 1 q) (-1)) else pvOr x (pvShl 1 q)
theorem msF_t : ∀ (x : Fin 16) (q : Fin 4) (on : Fin 2), msF ((x : Nat) : Int) ((q : Nat) : Int) ((on : Nat) : Int) = (if (if btF ((x : Nat) : Int) ((q : Nat) : Int) then 1 else 0) = ((on : Nat) : Int) then ((x : Nat) : Int) else pvXor ((x : Nat) : Int) (pvShl 1 ((q : Nat) : Int))) ∧ 0 ≤ msF ((x : Nat) : Int) ((q : Nat) : Int) ((on : Nat) : Int) ∧ msF ((x : Nat) : Int) ((q : Nat) : Int) ((on : Nat) : Int) ≤ 15 := by
  decide +kernel
theorem msF_eq {x q on : Int} (hx : 0 ≤ x ∧ x ≤ 15) (hq : 0 ≤ q ∧ q ≤ 3) (ho : on = 0 ∨ on = 1) : msF x q on = (if (if btF x q then 1 else 0) = on then x else pvXor x (pvShl 1 q)) ∧ 0 ≤ msF x q on ∧ msF x q on ≤ 15 := by
  obtain ⟨a, rfl⟩ := fin_of (a := x) (n := 16) (by omega)
  obtain ⟨b, rfl⟩ := fin_of (a := q) (n := 4) (by omega)
  obtain ⟨c, rfl⟩ := fin_of (a := on) (n := 2) (by omega)
  exact msF_t a b c
theorem chgF_8 {z z' : pvM} {v : Int} (h : chgF (pvUp z.1 39 8 v, z.2) z') : chgF z z' := by
  simp only [chgF, pvUp_ap, Nat.reduceEqDiff, false_and, and_false, true_and, if_false, reduceIte] at h
  exact h
theorem chgF_m {z z1 z2 : pvM} (h : chgF z z1) (h3 : z2.1 39 3 = z1.1 39 3) (h4 : z2.1 42 = z1.1 42) : chgF z z2 := by
  unfold chgF
  rw [h3, h4]
  exact h
theorem chgF_b {z z0 z1 : pvM} (h : chgF z0 z1) (h3 : z0.1 39 3 = z.1 39 3) (h4 : z0.1 42 = z.1 42) (h5 : z0.1 40 = z.1 40) : chgF z z1 := by
  unfold chgF at h ⊢
  rw [h3, h4, h5] at h
  exact h
theorem chgF_u {z z1 : pvM} {k : Nat} {v : Int} (h : chgF z z1) : chgF z (pvUp z1.1 40 k v, z1.2) :=
  chgF_m h (by show pvUp z1.1 40 k v 39 3 = _; simp [pvUp_ap]) (by show pvUp z1.1 40 k v 42 = _; exact pvUp_ne (by decide))
theorem rT_q {f : Nat → Int} {s : Int} {j : Nat} (h : 163 * s.toNat + 3 ≤ j) : f j = rT f s ((j - (163 * s.toNat + 3)) / 16) ((j - (163 * s.toNat + 3)) % 16) := by
  unfold rT
  congr 1
  omega
