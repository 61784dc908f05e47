def rwF (q a r w : Int) (p : Nat → Int) : Nat → Int := fun c => if c = 0 then q else if c = 1 then a else if c = 2 then r else if c = 3 then w else if c < 4 + 3 * w.toNat then p (c - 4) else 0
def adA (A : Aut) (q a r w : Int) (p : Nat → Int) : Aut := (A.1 + 1, A.2.1, A.2.2.1, fun t => if (t : Int) < A.1 then A.2.2.2 t else if (t : Int) = A.1 then rwF q a r w p else fun _ => 0)
def rmA (A : Aut) (u : Nat) : Aut := (A.1 - 1, A.2.1, A.2.2.1, fun t => if (t : Int) + 1 < A.1 then (if u ≤ t then A.2.2.2 (t + 1) else A.2.2.2 t) else fun _ => 0)
def inA (A : Aut) (v : Int) : Aut := (A.1, v, A.2.2.1, A.2.2.2)
def fiA (A : Aut) (v : Int) : Aut := (A.1, A.2.1, v, A.2.2.2)
def clA : Aut := (0, 1, 0, fun _ _ => 0)
theorem nrT_ext {T T' : Nat → Int} (h3 : T 3 ≤ 4) (h : ∀ c, c < 16 → T' c = T c) : nrT T' = nrT T := by
  funext c
  unfold nrT
  rw [h 3 (by decide)]
  by_cases e : c < 4 ∨ c < 4 + 3 * (T 3).toNat
  · rw [if_pos e, if_pos e]
    exact h c (by omega)
  · rw [if_neg e, if_neg e]
theorem abA_ext {n i f : Int} {T T' : Nat → Nat → Int} (h : ∀ t : Nat, (t : Int) < n → nrT (T' t) = nrT (T t)) : abA n i f T' = abA n i f T := by
  unfold abA
  congr 1
  congr 1
  congr 1
  funext t
  split
  · exact h t (by assumption)
  · rfl
theorem adA_of {n i f q a r w : Int} {p : Nat → Int} {T T' : Nat → Nat → Int} (m : Nat) (hm : n = m) (hw : w ≤ 4) (h3 : ∀ t : Nat, (t : Int) < n → T t 3 ≤ 4) (h : ∀ t c : Nat, (t : Int) < n → c < 16 → T' t c = T t c)
    (h0 : T' m 0 = q ∧ T' m 1 = a ∧ T' m 2 = r ∧ T' m 3 = w) (hp : ∀ k c : Nat, c < 3 → (k : Int) < w → T' m (4 + 3 * k + c) = p (3 * k + c)) : abA (n + 1) i f T' = adA (abA n i f T) q a r w p := by
  unfold abA adA
  congr 1
  congr 1
  congr 1
  funext t
  by_cases e : (t : Int) < n
  · rw [if_pos (by omega), if_pos e]
    show _ = (if (t : Int) < n then nrT (T t) else fun _ => 0)
    rw [if_pos e]
    exact nrT_ext (h3 t e) (fun c hc => h t c e hc)
  · by_cases e2 : (t : Int) = n
    · rw [if_pos (by omega), if_neg e, if_pos e2]
      obtain rfl : t = m := by omega
      obtain ⟨a0, a1, a2, a3⟩ := h0
      funext c
      unfold nrT rwF
      rw [a3]
      by_cases c4 : c < 4
      · rw [if_pos (Or.inl c4)]
        rcases (show c = 0 ∨ c = 1 ∨ c = 2 ∨ c = 3 by omega) with rfl | rfl | rfl | rfl <;> simp [a0, a1, a2, a3]
      · rw [if_neg (show ¬ c = 0 by omega), if_neg (show ¬ c = 1 by omega), if_neg (show ¬ c = 2 by omega), if_neg (show ¬ c = 3 by omega)]
        by_cases c5 : c < 4 + 3 * w.toNat
        · rw [if_pos (Or.inr c5), if_pos c5]
          have := hp ((c - 4) / 3) ((c - 4) % 3) (Nat.mod_lt _ (by decide)) (by omega)
          rw [show 4 + 3 * ((c - 4) / 3) + (c - 4) % 3 = c by omega, show 3 * ((c - 4) / 3) + (c - 4) % 3 = c - 4 by omega] at this
          exact this
        · rw [if_neg (by omega), if_neg c5]
    · rw [if_neg (by omega), if_neg e, if_neg e2]
theorem rmA_of {n i f : Int} {T T' : Nat → Nat → Int} {u : Nat} (h3 : ∀ t : Nat, (t : Int) < n → T t 3 ≤ 4) (h : ∀ t c : Nat, (t : Int) + 1 < n → c < 16 → T' t c = if u ≤ t then T (t + 1) c else T t c) : abA (n - 1) i f T' = rmA (abA n i f T) u := by
  unfold abA rmA
  congr 1
  congr 1
  congr 1
  funext t
  by_cases e : (t : Int) + 1 < n
  · rw [if_pos (by omega), if_pos e]
    by_cases e2 : u ≤ t
    · rw [if_pos e2]
      show _ = (if ((t + 1 : Nat) : Int) < n then nrT (T (t + 1)) else fun _ => 0)
      rw [if_pos (by omega)]
      exact nrT_ext (h3 _ (by omega)) (fun c hc => by rw [h t c e hc, if_pos e2])
    · rw [if_neg e2]
      show _ = (if (t : Int) < n then nrT (T t) else fun _ => 0)
      rw [if_pos (by omega)]
      exact nrT_ext (h3 _ (by omega)) (fun c hc => by rw [h t c e hc, if_neg e2])
  · rw [if_neg (by omega), if_neg e]
theorem WfA_3 {n i f : Int} {T : Nat → Nat → Int} (h : WfA (abA n i f T)) (t : Nat) (ht : (t : Int) < n) : TwF (T t) := by
  have q := h.2.2.2 t ht
  rw [abA_T ht] at q
  exact TwF_nr q
theorem autR_ext {f f' : Nat → Int} {s s' : Int} (hw : WfA (autR f s)) (h : ∀ k : Nat, k < 163 → f' (163 * s'.toNat + k) = f (163 * s.toNat + k)) : autR f' s' = autR f s := by
  have hn := hw.1.2
  unfold autR
  have e0 := h 0 (by decide)
  rw [Nat.add_zero, Nat.add_zero] at e0
  rw [h 2 (by decide), e0, h 1 (by decide)]
  refine abA_ext fun t ht => nrT_ext (WfA_3 hw t ht).2.2.2.1.2 fun c hc => ?_
  unfold rT
  have ht10 : t < 10 := by
    have : f (163 * s.toNat + 2) ≤ 10 := hn
    omega
  have := h (3 + 16 * t + c) (by omega)
  rw [show 163 * s'.toNat + 3 + 16 * t + c = 163 * s'.toNat + (3 + 16 * t + c) by omega, this]
  congr 1
  omega
theorem autC_ext {f f' : Nat → Int} (hw : WfC f) (h : ∀ k : Nat, k < 173 → f' k = f k) : autC f' = autC f ∧ WfC f' := by
  have hn : f 0 ≤ 10 := hw.1.1.2
  have e : autC f' = autC f := by
    unfold autC
    rw [h 0 (by decide), h 1 (by decide), h 2 (by decide)]
    refine abA_ext fun t ht => nrT_ext (WfA_3 hw.1 t ht).2.2.2.1.2 fun c hc => ?_
    exact h _ (by omega)
  refine ⟨e, by rw [e]; exact hw.1, fun t ht => ?_⟩
  rw [h 0 (by decide)] at ht
  obtain ⟨a, b⟩ := hw.2 t ht
  have er : ∀ c, c < 17 → cT f' t c = cT f t c := fun c hc => h _ (by omega)
  rw [er 16 (by decide)]
  refine ⟨a, fun v hv => ?_⟩
  rw [b v hv]
  have en : nrT (cT f' t) = nrT (cT f t) := nrT_ext (WfA_3 hw.1 t ht).2.2.2.1.2 fun c hc => er c (by omega)
  rw [← blF_nr (cT f t), ← en, blF_nr]
theorem rwF_w {q a r w : Int} {p : Nat → Int} (hq : 0 ≤ q ∧ q ≤ 3) (ha : 0 ≤ a ∧ a ≤ 2) (hr : 0 ≤ r ∧ r ≤ 3) (hg : GwF w p) : TwF (rwF q a r w p) := by
  refine ⟨hq, ha, hr, hg.1, fun k hk => ?_⟩
  obtain ⟨g1, g2, g3⟩ := hg.2 k hk
  have hk' : (k : Int) < w := hk
  have e : ∀ c, c < 3 → rwF q a r w p (4 + 3 * k + c) = p (3 * k + c) := by
    intro c hc
    unfold rwF
    rw [if_neg (by omega), if_neg (by omega), if_neg (by omega), if_neg (by omega), if_pos (by omega), show 4 + 3 * k + c - 4 = 3 * k + c by omega]
  have e0 := e 0 (by decide)
  have e1 := e 1 (by decide)
  have e2 := e 2 (by decide)
  rw [Nat.add_zero, Nat.add_zero] at e0
  rw [show 4 + 3 * k + 1 = 5 + 3 * k by omega] at e1
  rw [show 4 + 3 * k + 2 = 6 + 3 * k by omega] at e2
  rw [e0, e1, e2]
  exact ⟨g1, g2, g3⟩
theorem adA_w {A : Aut} {q a r w : Int} {p : Nat → Int} (h : WfA A) (hn : A.1 ≤ 9) (hq : 0 ≤ q ∧ q ≤ 3) (ha : 0 ≤ a ∧ a ≤ 2) (hr : 0 ≤ r ∧ r ≤ 3) (hg : GwF w p) : WfA (adA A q a r w p) := by
  obtain ⟨h1, h2, h3, h4⟩ := h
  refine ⟨⟨by show 0 ≤ A.1 + 1; omega, by show A.1 + 1 ≤ 10; omega⟩, h2, h3, fun t ht => ?_⟩
  have ht' : (t : Int) < A.1 + 1 := ht
  show TwF (if (t : Int) < A.1 then A.2.2.2 t else if (t : Int) = A.1 then rwF q a r w p else fun _ => 0)
  by_cases e : (t : Int) < A.1
  · rw [if_pos e]; exact h4 t e
  · rw [if_neg e, if_pos (by omega)]; exact rwF_w hq ha hr hg
theorem rmA_w {A : Aut} {u : Nat} (h : WfA A) (hu : (u : Int) < A.1) : WfA (rmA A u) := by
  obtain ⟨h1, h2, h3, h4⟩ := h
  refine ⟨⟨by show 0 ≤ A.1 - 1; omega, by show A.1 - 1 ≤ 10; omega⟩, h2, h3, fun t ht => ?_⟩
  have ht' : (t : Int) < A.1 - 1 := ht
  show TwF (if (t : Int) + 1 < A.1 then (if u ≤ t then A.2.2.2 (t + 1) else A.2.2.2 t) else fun _ => 0)
  rw [if_pos (by omega)]
  split
  · exact h4 _ (by omega)
  · exact h4 _ (by omega)
theorem inA_w {A : Aut} {v : Int} (h : WfA A) (hv : 0 ≤ v ∧ v ≤ 15) : WfA (inA A v) := ⟨h.1, hv, h.2.2.1, h.2.2.2⟩
theorem fiA_w {A : Aut} {v : Int} (h : WfA A) (hv : 0 ≤ v ∧ v ≤ 15) : WfA (fiA A v) := ⟨h.1, h.2.1, hv, h.2.2.2⟩
theorem clA_w : WfA clA := ⟨by decide, by decide, by decide, fun t ht => absurd (show (t : Int) < 0 from ht) (by omega)⟩
/-- what the text gives is a guard -/
theorem gdI_w {G : Nat → Int} {k : Nat} {a b c : Int} (h : GwF k G) (hk : k ≤ 3) (ha : 0 ≤ a ∧ a ≤ 2) (hb : 0 ≤ b ∧ b ≤ 6) (hc : 0 ≤ c ∧ c ≤ 3) : GwF ((k + 1 : Nat) : Int) (gdI G k a b c) := by
  refine ⟨by omega, fun j hj => ?_⟩
  unfold gdI
  by_cases e : j = k
  · subst e
    simp (disch := omega) only [if_pos, if_neg]
    exact ⟨ha, hb, hc⟩
  · have := h.2 j (by omega)
    simp (disch := omega) only [if_neg]
    exact this
theorem kcF_w {ch : Nat → Int} (p : Nat) (h : (kcF ch p).1 = true) : (0 ≤ (kcF ch p).2.1 ∧ (kcF ch p).2.1 ≤ 2) ∧ (0 ≤ (kcF ch p).2.2.1 ∧ (kcF ch p).2.2.1 ≤ 6) ∧ (0 ≤ (kcF ch p).2.2.2.1 ∧ (kcF ch p).2.2.2.1 ≤ 3) := by
  revert h
  unfold kcF kdF
  (repeat' split) <;> simp <;> omega
theorem rdF_w {ch : Nat → Int} {n : Int} (m : Nat) : ∀ (p k : Nat) (G : Nat → Int), k + m ≤ 4 → GwF k G → GwF ((rdF ch n m p k G).2.1 : Nat) (rdF ch n m p k G).2.2 := by
  induction m with
  | zero => intro p k G _ h; exact h
  | succ m ih =>
    intro p k G hk h
    simp only [rdF]
    by_cases e : (kcF ch p).1 = true
    · rw [if_pos e]
      obtain ⟨e1, e2, e3⟩ := kcF_w p e
      have g := gdI_w h (by omega) e1 e2 e3
      split
      · exact ih _ _ _ (by omega) g
      · exact g
    · rw [if_neg e]
      exact h
theorem rtF_w (t : Nat → Int) (n : Int) : GwF ((rtF t n).2.1 : Nat) (rtF t n).2.2 := by
  have g0 : GwF ((0 : Nat) : Int) (fun _ => 0) := ⟨by decide, fun k hk => by omega⟩
  unfold rtF
  split
  · exact g0
  · exact rdF_w 4 0 0 _ (by decide) g0
theorem rdF_f {ch : Nat → Int} {n : Int} (m : Nat) : ∀ (p k : Nat) (G : Nat → Int), -1 ≤ (rdF ch n m p k G).1 ∧ (rdF ch n m p k G).1 ≤ p + 5 * m ∨ (rdF ch n m p k G).1 < n := by
  induction m with
  | zero => intro p k G; simp only [rdF]; split <;> omega
  | succ m ih =>
    intro p k G
    have kp := kcF_p ch p
    simp only [rdF]
    split
    · split
      · have := ih ((kcF ch p).2.2.2.2 + 1) (k + 1) (gdI G k (kcF ch p).2.1 (kcF ch p).2.2.1 (kcF ch p).2.2.2.1)
        omega
      · simp only
        split <;> omega
    · simp only
      omega
theorem rtF_r {t : Nat → Int} {n : Int} (hn : n ≤ 30) : (rtF t n).1 ≤ 60 := by
  unfold rtF
  split
  · show (-1 : Int) ≤ 60
    decide
  · have := rdF_f (ch := chF t n) (n := n) 4 0 0 (fun _ => 0)
    omega
theorem rdF_g {ch : Nat → Int} {n : Int} (m : Nat) : ∀ (p k : Nat) (G : Nat → Int), -1 ≤ (rdF ch n m p k G).1 := by
  induction m with
  | zero => intro p k G; simp only [rdF]; split <;> omega
  | succ m ih =>
    intro p k G
    simp only [rdF]
    split
    · split
      · exact ih _ _ _
      · simp only
        split <;> omega
    · simp only
      omega
theorem rtF_g (t : Nat → Int) (n : Int) : -1 ≤ (rtF t n).1 := by
  unfold rtF
  split
  · exact Int.le_refl _
  · exact rdF_g _ _ _ _

