def emA : Aut := (0, 0, 0, fun _ _ => 0)
theorem emA_w : WfA emA := ⟨by decide, by decide, by decide, fun t ht => absurd (show (t : Int) < 0 from ht) (by omega)⟩
theorem sbF_em (set a v : Int) : sbF emA set a v = 0 := rfl
/-- the configuration behind an event; none: -1 -/
def stF1 (A B : Aut) (c a d : Int) : Int := if sbF A (c / 16 % 16) a (psF (c / 256) d) = 0 then -1 else 256 * rsF (psF (c / 256) d) a + 16 * sbF A (c / 16 % 16) a (psF (c / 256) d) + sbF B (c % 16) a (psF (c / 256) d)
def goF (A B : Aut) (c : Int) : Prop := pvAnd (c / 16 % 16) A.2.2.1 ≠ 0 ∧ pvAnd (c % 16) B.2.2.1 = 0
def okV (v : Int) : Prop := (0 ≤ v ∧ v < 216) ∧ (v % 6 = 0 ∨ v / 6 % 6 = 0 ∨ v / 36 = 0 ∨ v = 215)
def okQ (c : Int) : Prop := 0 ≤ c ∧ okV (c / 256)
def c0F (A B : Aut) : Int := 256 * 215 + 16 * A.2.1 + B.2.1
/-- reached with n events -/
def rcK (A B : Aut) : Nat → Int → Prop
  | 0, c => c = c0F A B
  | n + 1, c => ∃ c' a d : Int, rcK A B n c' ∧ (0 ≤ a ∧ a ≤ 2) ∧ (0 ≤ d ∧ d ≤ 4) ∧ stF1 A B c' a d = c ∧ 0 ≤ c
/-- and with no fewer -/
def lqF (A B : Aut) (n : Nat) (c : Int) : Prop := rcK A B n c ∧ ∀ m, m < n → ¬ rcK A B m c
noncomputable def lvB (A B : Aut) (n : Nat) (c : Int) : Bool := @decide (lqF A B n c) (Classical.propDecidable _)
theorem lvB_t {A B : Aut} {n : Nat} {c : Int} : lvB A B n c = true ↔ lqF A B n c := by
  unfold lvB
  exact @decide_eq_true_iff _ (Classical.propDecidable _)
noncomputable def goB (A B : Aut) (c : Int) : Bool := @decide (goF A B c) (Classical.propDecidable _)
theorem goB_t {A B : Aut} {c : Int} : goB A B c = true ↔ goF A B c := by
  unfold goB
  exact @decide_eq_true_iff _ (Classical.propDecidable _)
theorem rs_ok {w a : Int} (hw : 0 ≤ w ∧ w < 216) (ha : 0 ≤ a ∧ a ≤ 2) : okV (rsF w a) := by
  refine ⟨rsF_r hw, ?_⟩
  unfold rsF
  (repeat' split) <;> omega
theorem st_r {A B : Aut} (hA : WfA A) (hB : WfA B) {c a d : Int} (hc : okQ c) (ha : 0 ≤ a ∧ a ≤ 2) (hd : 0 ≤ d ∧ d ≤ 4) : stF1 A B c a d = -1 ∨ okQ (stF1 A B c a d) := by
  have hv := hc.2.1
  have hp := psF_r (v := c / 256) (d := d) (by omega)
  have h1 := sbF_r hA (c / 16 % 16) a (psF (c / 256) d)
  have h2 := sbF_r hB (c % 16) a (psF (c / 256) d)
  have h3 := rs_ok hp ha
  unfold stF1
  split
  · exact Or.inl rfl
  · refine Or.inr ⟨?_, ?_⟩
    · have := h3.1
      omega
    · have e : (256 * rsF (psF (c / 256) d) a + 16 * sbF A (c / 16 % 16) a (psF (c / 256) d) + sbF B (c % 16) a (psF (c / 256) d)) / 256 = rsF (psF (c / 256) d) a := by
        have := h3.1
        omega
      rw [e]
      exact h3
theorem c0_ok {A B : Aut} (hA : WfA A) (hB : WfA B) : okQ (c0F A B) := by
  have h1 := hA.2.1
  have h2 := hB.2.1
  unfold c0F okQ okV
  have e : (256 * 215 + 16 * A.2.1 + B.2.1) / 256 = 215 := by omega
  rw [e]
  omega
theorem rc_ok {A B : Aut} (hA : WfA A) (hB : WfA B) (n : Nat) : ∀ c, rcK A B n c → okQ c := by
  induction n with
  | zero => intro c h; rw [show c = c0F A B from h]; exact c0_ok hA hB
  | succ n ih =>
    rintro c ⟨c', a, d, h1, ha, hd, rfl, h0⟩
    rcases st_r hA hB (ih c' h1) ha hd with h | h
    · omega
    · exact h
/-- each configuration has a least number of events -/
theorem lv_ex {A B : Aut} (n : Nat) : ∀ c, rcK A B n c → ∃ m, m ≤ n ∧ lqF A B m c := by
  induction n using Nat.strongRecOn with
  | _ n ih =>
    intro c h
    by_cases e : ∃ m, m < n ∧ rcK A B m c
    · obtain ⟨m, h1, h2⟩ := e
      obtain ⟨k, h3, h4⟩ := ih m h1 c h2
      exact ⟨k, by omega, h4⟩
    · exact ⟨n, Nat.le_refl _, h, fun m hm hr => e ⟨m, hm, hr⟩⟩
theorem lv_un {A B : Aut} {m n : Nat} {c : Int} (h : lqF A B m c) (h' : lqF A B n c) : m = n := by
  rcases Nat.lt_trichotomy m n with e | e | e
  · exact absurd h.1 (h'.2 m e)
  · exact e
  · exact absurd h'.1 (h.2 n e)
/-- the one ahead of it on a shortest way -/
theorem lv_pr {A B : Aut} {n : Nat} {c : Int} (h : lqF A B (n + 1) c) : ∃ c' a d : Int, lqF A B n c' ∧ (0 ≤ a ∧ a ≤ 2) ∧ (0 ≤ d ∧ d ≤ 4) ∧ stF1 A B c' a d = c ∧ 0 ≤ c := by
  obtain ⟨⟨c', a, d, h1, ha, hd, hs, h0⟩, h2⟩ := h
  refine ⟨c', a, d, ⟨h1, fun m hm hr => ?_⟩, ha, hd, hs, h0⟩
  exact h2 (m + 1) (by omega) ⟨c', a, d, hr, ha, hd, hs, h0⟩
/-- a goal is found first with F events -/
def fdF (A B : Aut) (F : Nat) : Prop := (∃ c, rcK A B F c ∧ goF A B c) ∧ ∀ n, n < F → ∀ c, rcK A B n c → ¬ goF A B c
theorem fd_ex {A B : Aut} {n : Nat} {c : Int} (h : rcK A B n c) (hg : goF A B c) : ∃ F, F ≤ n ∧ fdF A B F := by
  induction n using Nat.strongRecOn generalizing c with
  | _ n ih =>
    by_cases e : ∃ m, m < n ∧ ∃ c, rcK A B m c ∧ goF A B c
    · obtain ⟨m, h1, c', h2, h3⟩ := e
      obtain ⟨F, h4, h5⟩ := ih m h1 h2 h3
      exact ⟨F, by omega, h5⟩
    · exact ⟨n, Nat.le_refl _, ⟨c, h, hg⟩, fun m hm c' hr hg' => e ⟨m, hm, c', hr, hg'⟩⟩
theorem fd_un {A B : Aut} {F G : Nat} (h : fdF A B F) (h' : fdF A B G) : F = G := by
  rcases Nat.lt_trichotomy F G with e | e | e
  · obtain ⟨c, h1, h2⟩ := h.1
    exact absurd h2 (h'.2 F e c h1)
  · exact e
  · obtain ⟨c, h1, h2⟩ := h'.1
    exact absurd h2 (h.2 G e c h1)
/-- the least of the ways on, of the first k events -/
noncomputable def mnK (A B : Aut) (lev : Nat) (co : Int → Int) (c : Int) : Nat → Int
  | 0 => 1000
  | k + 1 => if lvB A B lev (stF1 A B c ((k / 5 : Nat) : Int) ((k % 5 : Nat) : Int)) = true ∧ co (stF1 A B c ((k / 5 : Nat) : Int) ((k % 5 : Nat) : Int)) + ((k % 5 : Nat) : Int) < mnK A B lev co c k then co (stF1 A B c ((k / 5 : Nat) : Int) ((k % 5 : Nat) : Int)) + ((k % 5 : Nat) : Int) else mnK A B lev co c k
noncomputable def nFif : Nat := Classical.choose (⟨15, rfl⟩ : ∃ n : Nat, n = 15)
theorem nFif_eq : nFif = 15 := Classical.choose_spec (⟨15, rfl⟩ : ∃ n : Nat, n = 15)
/-- the least sum of delays from a configuration of level F - m to a goal of level F -/
noncomputable def coK (A B : Aut) (F : Nat) : Nat → Int → Int
  | 0, c => if goB A B c = true then 0 else 1000
  | m + 1, c => mnK A B (F - m) (coK A B F m) c nFif
theorem mnK_r {A B : Aut} {lev : Nat} {co : Int → Int} {c : Int} (h : ∀ c, 0 ≤ co c) (k : Nat) : 0 ≤ mnK A B lev co c k ∧ mnK A B lev co c k ≤ 1000 := by
  induction k with
  | zero => exact ⟨by show (0 : Int) ≤ 1000; decide, Int.le_refl _⟩
  | succ k ih =>
    simp only [mnK]
    have := h (stF1 A B c ((k / 5 : Nat) : Int) ((k % 5 : Nat) : Int))
    split <;> omega
theorem coK_r (A B : Aut) (F m : Nat) : ∀ c, 0 ≤ coK A B F m c ∧ coK A B F m c ≤ 1000 := by
  induction m with
  | zero => intro c; simp only [coK]; split <;> omega
  | succ m ih => intro c; exact mnK_r (fun c => (ih c).1) _
theorem mnK_le {A B : Aut} {lev : Nat} {co : Int → Int} {c : Int} (k j : Nat) (hj : j < k) (h : lvB A B lev (stF1 A B c ((j / 5 : Nat) : Int) ((j % 5 : Nat) : Int)) = true) : mnK A B lev co c k ≤ co (stF1 A B c ((j / 5 : Nat) : Int) ((j % 5 : Nat) : Int)) + ((j % 5 : Nat) : Int) := by
  induction k with
  | zero => exact absurd hj (Nat.not_lt_zero _)
  | succ k ih =>
    simp only [mnK]
    by_cases e : j = k
    · subst e
      split
      · exact Int.le_refl _
      · rename_i hn
        have : ¬ co (stF1 A B c ((j / 5 : Nat) : Int) ((j % 5 : Nat) : Int)) + ((j % 5 : Nat) : Int) < mnK A B lev co c j := fun q => hn ⟨h, q⟩
        omega
    · have := ih (by omega)
      split
      · rename_i hn
        omega
      · exact this
theorem mnK_at {A B : Aut} {lev : Nat} {co : Int → Int} {c : Int} (k : Nat) (h : mnK A B lev co c k < 1000) : ∃ j, j < k ∧ lvB A B lev (stF1 A B c ((j / 5 : Nat) : Int) ((j % 5 : Nat) : Int)) = true ∧ co (stF1 A B c ((j / 5 : Nat) : Int) ((j % 5 : Nat) : Int)) + ((j % 5 : Nat) : Int) = mnK A B lev co c k := by
  induction k with
  | zero => exact absurd (show (1000 : Int) < 1000 from h) (by decide)
  | succ k ih =>
    simp only [mnK] at h ⊢
    by_cases e : lvB A B lev (stF1 A B c ((k / 5 : Nat) : Int) ((k % 5 : Nat) : Int)) = true ∧ co (stF1 A B c ((k / 5 : Nat) : Int) ((k % 5 : Nat) : Int)) + ((k % 5 : Nat) : Int) < mnK A B lev co c k
    · rw [if_pos e]
      exact ⟨k, by omega, e.1, rfl⟩
    · rw [if_neg e] at h ⊢
      obtain ⟨j, h1, h2⟩ := ih h
      exact ⟨j, by omega, h2⟩
/-- is k the way on, from c on level i -/
def nxP (A B : Aut) (F i : Nat) (c : Int) (k : Nat) : Prop := lvB A B (i + 1) (stF1 A B c ((k / 5 : Nat) : Int) ((k % 5 : Nat) : Int)) = true ∧ coK A B F (F - (i + 1)) (stF1 A B c ((k / 5 : Nat) : Int) ((k % 5 : Nat) : Int)) + ((k % 5 : Nat) : Int) = coK A B F (F - i) c
/-- a word's configurations and events: each event the first way on -/
def wyP (A B : Aut) (F : Nat) (cs : Nat → Int) (ks : Nat → Nat) : Prop := cs 0 = c0F A B ∧ ∀ i, i < F → (ks i < 15 ∧ nxP A B F i (cs i) (ks i) ∧ ∀ j, j < ks i → ¬ nxP A B F i (cs i) j) ∧ cs (i + 1) = stF1 A B (cs i) ((ks i / 5 : Nat) : Int) ((ks i % 5 : Nat) : Int)
theorem wy_un {A B : Aut} {F : Nat} {cs cs' : Nat → Int} {ks ks' : Nat → Nat} (h : wyP A B F cs ks) (h' : wyP A B F cs' ks') (i : Nat) (hi : i ≤ F) : cs i = cs' i ∧ ∀ j, j < i → ks j = ks' j := by
  induction i with
  | zero => exact ⟨by rw [h.1, h'.1], fun j hj => absurd hj (Nat.not_lt_zero _)⟩
  | succ i ih =>
    obtain ⟨e1, e2⟩ := ih (by omega)
    obtain ⟨⟨a1, a2, a3⟩, a4⟩ := h.2 i (by omega)
    obtain ⟨⟨b1, b2, b3⟩, b4⟩ := h'.2 i (by omega)
    rw [← e1] at b2 b3 b4
    have ek : ks i = ks' i := by
      rcases Nat.lt_trichotomy (ks i) (ks' i) with e | e | e
      · exact absurd a2 (b3 _ e)
      · exact e
      · exact absurd b2 (a3 _ e)
    refine ⟨by rw [a4, b4, ek], fun j hj => ?_⟩
    by_cases ej : j = i
    · rw [ej, ek]
    · exact e2 j (by omega)
theorem nx_ex {A B : Aut} {F i : Nat} {c : Int} (hi : i < F) (h : coK A B F (F - i) c < 1000) : ∃ k, k < 15 ∧ nxP A B F i c k ∧ ∀ j, j < k → ¬ nxP A B F i c j := by
  rw [show F - i = (F - (i + 1)) + 1 by omega] at h
  simp only [coK] at h
  obtain ⟨j, h1, h2, h3⟩ := mnK_at nFif h
  rw [nFif_eq] at h1
  have hP : nxP A B F i c j := by
    unfold nxP
    rw [show F - i = (F - (i + 1)) + 1 by omega]
    simp only [coK]
    rw [show F - (F - (i + 1)) = i + 1 by omega] at h2 h3 ⊢
    exact ⟨h2, h3⟩
  clear h h2 h3
  have : ∀ n, n < 15 → nxP A B F i c n → ∃ k, k ≤ n ∧ nxP A B F i c k ∧ ∀ j, j < k → ¬ nxP A B F i c j := by
    intro n
    induction n using Nat.strongRecOn with
    | _ n ih =>
      intro hn hp
      by_cases e : ∃ m, m < n ∧ nxP A B F i c m
      · obtain ⟨m, e1, e2⟩ := e
        obtain ⟨k, e3, e4⟩ := ih m e1 (by omega) e2
        exact ⟨k, by omega, e4⟩
      · exact ⟨n, Nat.le_refl _, hp, fun j hj hq => e ⟨j, hj, hq⟩⟩
  obtain ⟨k, e1, e2⟩ := this j h1 hP
  exact ⟨k, by omega, e2⟩
/-- from each level a shortest way to a goal costs at most 4 an event -/
theorem co_le {A B : Aut} (hA : WfA A) (hB : WfA B) {F : Nat} (m : Nat) (hm : m ≤ F) : ∀ c, lqF A B F c → goF A B c → ∃ c', lqF A B (F - m) c' ∧ coK A B F m c' ≤ 4 * m := by
  induction m with
  | zero =>
    intro c h1 h2
    refine ⟨c, h1, ?_⟩
    simp only [coK]
    rw [if_pos (goB_t.mpr h2)]
    exact Int.le_refl _
  | succ m ih =>
    intro c h1 h2
    obtain ⟨c', h3, h4⟩ := ih (by omega) c h1 h2
    rw [show F - m = (F - (m + 1)) + 1 by omega] at h3
    obtain ⟨c'', a, d, h5, ha, hd, hs, h0⟩ := lv_pr h3
    refine ⟨c'', h5, ?_⟩
    simp only [coK]
    have := mnK_le (A := A) (B := B) (lev := F - m) (co := coK A B F m) (c := c'') nFif (5 * a.toNat + d.toNat) (by rw [nFif_eq]; omega) (by
      rw [show (5 * a.toNat + d.toNat) / 5 = a.toNat by omega, show (5 * a.toNat + d.toNat) % 5 = d.toNat by omega, show ((a.toNat : Nat) : Int) = a by omega, show ((d.toNat : Nat) : Int) = d by omega, hs, show F - m = (F - (m + 1)) + 1 by omega]
      exact lvB_t.mpr h3)
    rw [show (5 * a.toNat + d.toNat) / 5 = a.toNat by omega, show (5 * a.toNat + d.toNat) % 5 = d.toNat by omega, show ((a.toNat : Nat) : Int) = a by omega, show ((d.toNat : Nat) : Int) = d by omega, hs] at this
    omega
theorem co_0 {A B : Aut} (hA : WfA A) (hB : WfA B) {F : Nat} (h : fdF A B F) : coK A B F F (c0F A B) ≤ 4 * F := by
  obtain ⟨c, h1, h2⟩ := h.1
  have hl : lqF A B F c := ⟨h1, fun m hm hr => h.2 m hm c hr h2⟩
  obtain ⟨c', h3, h4⟩ := co_le hA hB F (Nat.le_refl _) c hl h2
  rw [Nat.sub_self] at h3
  rw [← show c' = c0F A B from h3.1]
  exact h4

