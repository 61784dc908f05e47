def okB (v : Int) : Bool := decide (v % 6 = 0) || decide (v / 6 % 6 = 0) || decide (v / 36 = 0) || decide (v = 215)
def smR : Nat → Int
  | 0 => 0
  | v + 1 => smR v + (if okB (v : Int) = true then 1 else 0)
/-- the table of the small numbers -/
def smP (z : pvM) : Prop := ∀ v : Nat, v < 216 → z.1 52 v = if okB (v : Int) = true then smR v else -1
theorem okB_t {v : Int} : okB v = true ↔ (v % 6 = 0 ∨ v / 6 % 6 = 0 ∨ v / 36 = 0 ∨ v = 215) := by
  unfold okB
  simp only [Bool.or_eq_true, decide_eq_true_iff]
  constructor
  · rintro (((h | h) | h) | h)
    · exact Or.inl h
    · exact Or.inr (Or.inl h)
    · exact Or.inr (Or.inr (Or.inl h))
    · exact Or.inr (Or.inr (Or.inr h))
  · rintro (h | h | h | h)
    · exact Or.inl (Or.inl (Or.inl h))
    · exact Or.inl (Or.inl (Or.inr h))
    · exact Or.inl (Or.inr h)
    · exact Or.inr h
theorem smR_m (v j : Nat) : smR v ≤ smR (v + j) := by
  induction j with
  | zero => exact Int.le_refl _
  | succ j ih =>
    rw [← Nat.add_assoc]
    simp only [smR]
    split <;> omega
theorem smR_216 : smR 216 = 92 := by decide +kernel
theorem smR_lt {v : Nat} (hv : v < 216) (hb : okB (v : Int) = true) {w : Nat} (h : v < w) : smR v < smR w := by
  have h1 : smR (v + 1) = smR v + 1 := by simp only [smR]; rw [if_pos hb]
  have h2 := smR_m (v + 1) (w - (v + 1))
  rw [show v + 1 + (w - (v + 1)) = w by omega] at h2
  omega
theorem smR_r {v : Nat} (hv : v < 216) (hb : okB (v : Int) = true) : 0 ≤ smR v ∧ smR v < 92 := by
  have h1 := smR_m 0 v
  rw [Nat.zero_add] at h1
  have h2 := smR_lt hv hb hv
  rw [smR_216] at h2
  have h3 : smR 0 = 0 := rfl
  omega
theorem smR_inj {v w : Nat} (hv : v < 216) (hw : w < 216) (hb : okB (v : Int) = true) (hb' : okB (w : Int) = true) (e : smR v = smR w) : v = w := by
  rcases Nat.lt_trichotomy v w with h | h | h
  · have := smR_lt hv hb h; omega
  · exact h
  · have := smR_lt hw hb' h; omega
def ndC (c : Int) : Int := 256 * smR (c / 256).toNat + c % 256
theorem nc_b {c : Int} (h : okQ c) : (c / 256).toNat < 216 ∧ okB (((c / 256).toNat : Nat) : Int) = true ∧ (((c / 256).toNat : Nat) : Int) = c / 256 := by
  have h1 := h.2.1
  have e : (((c / 256).toNat : Nat) : Int) = c / 256 := by omega
  refine ⟨by omega, ?_, e⟩
  rw [e, okB_t]
  exact h.2.2
theorem nc_r {c : Int} (h : okQ c) : 0 ≤ ndC c ∧ ndC c < 23552 := by
  obtain ⟨a, b, -⟩ := nc_b h
  have := smR_r a b
  unfold ndC
  omega
theorem nc_inj {c c' : Int} (h : okQ c) (h' : okQ c') (e : ndC c = ndC c') : c = c' := by
  obtain ⟨a1, a2, a3⟩ := nc_b h
  obtain ⟨b1, b2, b3⟩ := nc_b h'
  unfold ndC at e
  have e1 : smR (c / 256).toNat = smR (c' / 256).toNat := by omega
  have := smR_inj a1 b1 a2 b2 e1
  omega
def nxC (c : Int) : Int := if c = -1 then -1 else ndC c
theorem nc_map {L : List Int} (h : L.Nodup) (hq : ∀ c ∈ L, okQ c) : (L.map ndC).Nodup := by
  induction L with
  | nil => exact List.nodup_nil
  | cons y t ih =>
    rw [List.nodup_cons] at h
    rw [List.map_cons, List.nodup_cons]
    refine ⟨fun hm => ?_, ih h.2 (fun c hc => hq c (List.mem_cons_of_mem _ hc))⟩
    obtain ⟨x, hx, e⟩ := List.mem_map.mp hm
    have := nc_inj (hq x (List.mem_cons_of_mem _ hx)) (hq y List.mem_cons_self) e
    subst this
    exact h.1 hx
/-- the other automaton of a search -/
def oaF (z : pvM) (s : Int) : Aut := if z.1 39 28 = 0 then emA else autR (z.1 40) (1 - s)
theorem and0 : ∀ x : Fin 16, pvAnd ((x : Nat) : Int) 0 = 0 := by decide +kernel
theorem nc_o {c : Int} (h : okQ c) : ndC c / 16 % 16 = c / 16 % 16 ∧ ndC c % 16 = c % 16 := by
  obtain ⟨a1, a2, -⟩ := nc_b h
  have := smR_r a1 a2
  unfold ndC
  omega
/-- a search's automata, as the reference holds them -/
def srP (z : pvM) (s : Int) (A B : Aut) : Prop := (0 ≤ s ∧ s ≤ 1) ∧ (z.1 39 28 = 0 ∨ z.1 39 28 = 1) ∧ (∀ s' : Int, 0 ≤ s' ∧ s' ≤ 1 → WfA (autR (z.1 40) s')) ∧ (∀ s' : Int, 0 ≤ s' ∧ s' ≤ 1 → ldP (z.1 48) s' (autR (z.1 40) s')) ∧ smP z ∧ A = autR (z.1 40) s ∧ B = oaF z s
theorem srP_w {z : pvM} {s : Int} {A B : Aut} (h : srP z s A B) : WfA A ∧ WfA B := by
  obtain ⟨h1, h2, h3, h4, h5, rfl, rfl⟩ := h
  refine ⟨h3 s h1, ?_⟩
  unfold oaF
  split
  · exact emA_w
  · exact h3 _ (by omega)
theorem srP_m {z z' : pvM} {s : Int} {A B : Aut} {ids jds : List Nat} (h : srP z s A B) (hf : frF ids jds z z') (hi : ∀ x ∈ ids, x = 39 ∨ x = 43 ∨ x = 44 ∨ 53 ≤ x) (h28 : z'.1 39 28 = z.1 39 28) : srP z' s A B := by
  have e40 : z'.1 40 = z.1 40 := hf.1 40 (fun hm => by have := hi _ hm; omega)
  have e48 : z'.1 48 = z.1 48 := hf.1 48 (fun hm => by have := hi _ hm; omega)
  have e52 : z'.1 52 = z.1 52 := hf.1 52 (fun hm => by have := hi _ hm; omega)
  unfold srP smP oaF at h ⊢
  rw [e40, e48, e52, h28]
  exact h
