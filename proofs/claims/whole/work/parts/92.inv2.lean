/-! the law's invariant: words that agree, what a call may write -/
def agF (n : Int) (d l d' l' : Nat → Int) : Prop := ∀ j : Nat, (j : Int) < n → d j = d' j ∧ l j = l' j
theorem va_x {n : Int} {d l d' l' : Nat → Int} (h : agF n d l d' l') (k : Nat) (hk : (k : Int) ≤ n) : vaF d l k = vaF d' l' k := by
  induction k with
  | zero => rfl
  | succ k ih =>
    have e := h k (by omega)
    simp only [vaF]
    rw [ih (by omega), e.1, e.2]
theorem af_x {n : Int} {A : Aut} {d l d' l' : Nat → Int} (h : agF n d l d' l') (k : Nat) (hk : (k : Int) ≤ n) : afK A d l k = afK A d' l' k := by
  induction k with
  | zero => rfl
  | succ k ih =>
    have e := h k (by omega)
    simp only [afK]
    rw [ih (by omega), va_x h k (by omega), e.1, e.2]
theorem st_x {n : Int} {A : Aut} {d l d' l' : Nat → Int} (h : agF n d l d' l') (m : Nat) : ∀ k : Nat, (k : Int) + m ≤ n → stK A d l m k = stK A d' l' m k := by
  induction m with
  | zero => intro k hk; rfl
  | succ m ih =>
    intro k hk
    simp only [stK]
    rw [ih (k + 1) (by omega), af_x h (k + 1) (by omega)]
theorem rn_x {n : Int} {A : Aut} {d l d' l' : Nat → Int} {E : Int → Int} (h : agF n d l d' l') (m : Nat) : ∀ i : Nat, (i : Int) + m ≤ n → rnB A d l E m i = rnB A d' l' E m i := by
  induction m with
  | zero => intro i hi; rfl
  | succ m ih =>
    intro i hi
    have e := h i (by omega)
    funext q
    simp only [rnB]
    rw [ih (i + 1) (by omega), va_x h i (by omega), e.1, e.2]
theorem ru_x {n : Int} {A : Aut} {d l d' l' : Nat → Int} {e : Int} (h : agF n d l d' l') (m : Nat) (hm : (m : Int) ≤ n) : ruF A d l m e = ruF A d' l' m e := by
  unfold ruF
  rw [rn_x h m 0 (by omega)]
theorem hp_x {n : Int} {A : Aut} {d l d' l' : Nat → Int} (h : agF n d l d' l') (m : Nat) : ∀ i : Nat, (i : Int) + m ≤ n → hpK A d l m i = hpK A d' l' m i := by
  induction m with
  | zero => intro i hi; rfl
  | succ m ih =>
    intro i hi
    have e := h i (by omega)
    simp only [hpK]
    rw [ih (i + 1) (by omega), va_x h i (by omega), e.1, e.2]
theorem fr_x {n : Int} {A : Aut} {d l d' l' : Nat → Int} (h : agF n d l d' l') (N : Nat) (hN : (N : Int) ≤ n) (k : Nat) (hk : k ≤ N) : frK A d l N k = frK A d' l' N k := by
  induction k with
  | zero =>
    simp only [frK]
    rw [hp_x h N 0 (by omega)]
  | succ k ih =>
    have e := h k (by omega)
    simp only [frK]
    rw [ih (by omega), hp_x h (N - (k + 1)) (k + 1) (by omega), va_x h k (by omega), e.1, e.2]
theorem lw_W {z : pvM} (h : lwI z) : ∀ s : Int, 0 ≤ s ∧ s ≤ 1 → WfA (autR (z.1 40) s) := fun s hs => by
  have := h.1 s hs
  rw [← this.1]
  exact this.2.1
theorem lw_C {z : pvM} (h : lwI z) : WfC (z.1 2) ∧ WfC (z.1 4) := ⟨(h.1 0 (by decide)).2, (h.1 1 (by decide)).2⟩
theorem lw_ag {z : pvM} (h : lwI z) : agF (z.1 20 4) (z.1 21) (z.1 22) (z.1 43) (z.1 44) := h.2.2.1.2.2
theorem lw_wc {z : pvM} (h : lwI z) : WcF z.1 := h.2.2.1.1.1
theorem lw_wd {z : pvM} (h : lwI z) : WdF (z.1 39 7) (z.1 43) (z.1 44) := by
  have w := (lw_wc h).1
  have a := lw_ag h
  have e : z.1 20 4 = z.1 39 7 := h.2.2.1.2.1
  unfold WdF at *
  rw [← e]
  refine ⟨w.1, fun k hk => ?_⟩
  have := a k hk
  rw [← this.1, ← this.2]
  exact w.2 k hk
theorem lw_tr {z : pvM} (h : lwI z) (s t : Int) : trC z s t ↔ trF (autR (z.1 40)) s t := by
  unfold trC trF
  constructor
  · rintro ⟨hs, ht⟩
    rw [(h.1 s hs).1] at ht
    exact ⟨hs, ht⟩
  · rintro ⟨hs, ht⟩
    rw [← (h.1 s hs).1] at ht
    exact ⟨hs, ht⟩
/-- the class wrote in cells that the invariant doesn't speak of, but for the caches and the search -/
theorem lwI_c {z z' : pvM} {ids jds : List Nat} (h : lwI z) (f : frF ids jds z z') (hi : ∀ x ∈ ids, x ∈ [5, 6, 7, 8, 9, 10, 11, 12, 27, 28, 29, 30, 31, 32]) (hp : pzF z') (hq : ∃ L, quF z' L) : lwI z' :=
  lwI_m h f (fun x hx => by have := hi x hx; simp at this; unfold frI; simp; omega) (fun j _ => by rw [f.1 39 (fun hm => by have := hi _ hm; simp at this)]) hp hq
theorem lwI_p {z z' : pvM} (h : lwI z) (f : deC z z') : lwI z' := by
  refine lwI_c h f.1 (by simp) f.2 ?_
  obtain ⟨L, hL⟩ := h.2.2.2.2.2.2.1
  exact ⟨L, quF_e hL (f.1.1 28 (by decide)) (f.1.1 29 (by decide)) (f.1.1 30 (by decide))⟩
/-- the class wrote in none of the cells that caches or the search have -/
theorem lwI_0 {z z' : pvM} {ids jds : List Nat} (h : lwI z) (f : frF ids jds z z') (hi : ∀ x ∈ ids, x ∈ [27, 31, 32]) : lwI z' := by
  refine lwI_c h f (fun x hx => by have := hi x hx; simp at this ⊢; omega) (pz_m h.2.2.2.2.2.1 f (fun x hx => by have := hi x hx; simp at this; omega)) ?_
  obtain ⟨L, hL⟩ := h.2.2.2.2.2.2.1
  exact ⟨L, quF_e hL (f.1 28 (fun hm => by have := hi _ hm; simp at this)) (f.1 29 (fun hm => by have := hi _ hm; simp at this)) (f.1 30 (fun hm => by have := hi _ hm; simp at this))⟩
/-- the reference wrote in cells that the invariant doesn't speak of -/
theorem lwI_r {z z' : pvM} {ids jds : List Nat} (h : lwI z) (f : frF ids jds z z') (hi : ∀ x ∈ ids, x ∈ [39, 46, 48, 49, 50, 51, 53, 54, 55]) (k : ∀ j, (j = 3 ∨ j = 4 ∨ j = 7 ∨ j = 10 ∨ j = 12) → z'.1 39 j = z.1 39 j) : lwI z' := by
  refine lwI_m h f (fun x hx => by have := hi x hx; simp at this; unfold frI; simp; omega) k (pz_m h.2.2.2.2.2.1 f (fun x hx => by have := hi x hx; simp at this; omega)) ?_
  obtain ⟨L, hL⟩ := h.2.2.2.2.2.2.1
  exact ⟨L, quF_e hL (f.1 28 (fun hm => by have := hi _ hm; simp at this)) (f.1 29 (fun hm => by have := hi _ hm; simp at this)) (f.1 30 (fun hm => by have := hi _ hm; simp at this))⟩
theorem lwI_d {z z' : pvM} (h : lwI z) (f : deF z z') : lwI z' := lwI_r h f.1 (by simp) (fun j hj => f.2 j (by omega) (by omega) (by omega))
theorem lwI_s {z z' : pvM} {ids jds : List Nat} (h : lwI z) (f : frF ids jds z z') (hi : ∀ x ∈ ids, x ∈ [39, 46, 48, 49, 50, 51, 53, 54, 55]) (k : seF2 z z') (k7 : z'.1 39 7 = z.1 39 7) : lwI z' :=
  lwI_r h f hi (fun j hj => by rcases hj with rfl | rfl | rfl | rfl | rfl <;> first | exact k7 | exact k _ (by decide) (by decide) (by decide) (by decide) (by decide))
theorem lwI_u {z : pvM} {v : Int} {b : (Nat → Nat → Int) × (Nat → Nat → UInt64)} (h : lwI z) : lwI (pvUp z.1 39 8 v, b) := lwI_8 h
theorem lwI_o {z : pvM} {b : (Nat → Nat → Int) × (Nat → Nat → UInt64)} (h : lwI z) : lwI (z.1, b) := h
theorem frF_o {z z' : pvM} {ids jds : List Nat} {b : (Nat → Nat → Int) × (Nat → Nat → UInt64)} (f : frF ids jds (z.1, b) z') (id : Nat) (h : id ∉ ids) : z'.1 id = z.1 id := f.1 id h
