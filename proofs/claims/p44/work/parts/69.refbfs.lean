noncomputable def lvN (A B : Aut) (c : Int) : Nat := @Classical.epsilon Nat ⟨0⟩ (fun n => lqF A B n c)
theorem lvN_eq {A B : Aut} {n : Nat} {c : Int} (h : lqF A B n c) : lvN A B c = n :=
  lv_un (@Classical.epsilon_spec_aux Nat ⟨0⟩ (fun n => lqF A B n c) ⟨n, h⟩) h
/-- the queue and the distances -/
def rqF (A B : Aut) (z : pvM) (Qs : List Int) : Prop := z.1 39 26 = Qs.length ∧ (∀ i, i < Qs.length → z.1 55 i = ndC (ndF Qs i)) ∧ (∀ c, okQ c → z.1 53 (ndC c).toNat = if c ∈ Qs then ((lvN A B c : Nat) : Int) else -1) ∧ Qs.Nodup ∧ (∀ c ∈ Qs, okQ c ∧ lqF A B (lvN A B c) c)
theorem rq_len {A B : Aut} {z : pvM} {Qs : List Int} (h : rqF A B z Qs) : Qs.length ≤ 23552 := by
  have := nd_len 23552 (Qs.map ndC) (nc_map h.2.2.2.1 (fun c hc => (h.2.2.2.2 c hc).1)) (fun x hx => by
    obtain ⟨c, hc, rfl⟩ := List.mem_map.mp hx
    exact nc_r (h.2.2.2.2 c hc).1)
  rwa [List.length_map] at this
theorem rq_lt {A B : Aut} {z : pvM} {Qs : List Int} (h : rqF A B z Qs) {x : Int} (hx : okQ x) (hn : x ∉ Qs) : Qs.length < 23552 := by
  have := nd_len 23552 ((Qs ++ [x]).map ndC) (nc_map (nodup_s h.2.2.2.1 hn) (fun c hc => by
    rcases List.mem_append.mp hc with hc | hc
    · exact (h.2.2.2.2 c hc).1
    · simp only [List.mem_singleton] at hc; subst hc; exact hx)) (fun y hy => by
    obtain ⟨c, hc, rfl⟩ := List.mem_map.mp hy
    rcases List.mem_append.mp hc with hc | hc
    · exact nc_r (h.2.2.2.2 c hc).1
    · simp only [List.mem_singleton] at hc; subst hc; exact nc_r hx)
  rw [List.length_map, List.length_append, List.length_singleton] at this
  omega
/-- what is found among the first of the queue -/
def fnF (A B : Aut) (Qs : List Int) (f : Int) : Prop := (f = -1 ∧ ∀ c ∈ Qs, ¬ goF A B c) ∨ (0 ≤ f ∧ (∃ c ∈ Qs, goF A B c ∧ ((lvN A B c : Nat) : Int) = f) ∧ ∀ c ∈ Qs, goF A B c → f ≤ lvN A B c)
/-- the queue sorted, its first, and all found behind the first i of it -/
def soF (A B : Aut) (Qs : List Int) (i : Nat) : Prop := (∀ j k, j ≤ k → k < Qs.length → lvN A B (ndF Qs j) ≤ lvN A B (ndF Qs k)) ∧ (0 < Qs.length ∧ ndF Qs 0 = c0F A B) ∧ (∀ j, j < i → j < Qs.length → ∀ a d : Int, (0 ≤ a ∧ a ≤ 2) → (0 ≤ d ∧ d ≤ 4) → stF1 A B (ndF Qs j) a d ≠ -1 → stF1 A B (ndF Qs j) a d ∈ Qs)
theorem so_rc {A B : Aut} {Qs : List Int} {i : Nat} (h : soF A B Qs i) (hq : ∀ c ∈ Qs, lqF A B (lvN A B c) c) (n : Nat) (hn : i < Qs.length → n ≤ lvN A B (ndF Qs i)) : ∀ c, rcK A B n c → c ∈ Qs := by
  induction n with
  | zero =>
    intro c hc
    rw [show c = c0F A B from hc, ← h.2.1.2]
    exact ndF_m h.2.1.1
  | succ n ih =>
    rintro c ⟨c', a, d, h1, ha, hd, hs, h0⟩
    have hm := ih (fun hi => by have := hn hi; omega) c' h1
    obtain ⟨x1, x2⟩ := ixN_lt hm
    have hle : lvN A B c' ≤ n := by
      have h9 := (hq c' hm).2
      by_cases e : lvN A B c' ≤ n
      · exact e
      · exact absurd h1 (h9 n (by omega))
    have hji : ixN Qs c' < i := by
      by_cases e : ixN Qs c' < i
      · exact e
      · have h8 := h.1 i (ixN Qs c') (by omega) x1
        rw [x2] at h8
        have := hn (by omega)
        omega
    have := h.2.2 _ hji x1 a d ha hd (by rw [x2, hs]; omega)
    rw [x2, hs] at this
    exact this
/-- a search done: all configurations up to the found level are in the queue -/
def sdF (A B : Aut) (z : pvM) (Qs : List Int) : Prop := rqF A B z Qs ∧ (0 < Qs.length ∧ ndF Qs 0 = c0F A B) ∧ (∀ j k, j ≤ k → k < Qs.length → lvN A B (ndF Qs j) ≤ lvN A B (ndF Qs k)) ∧
  ((z.1 39 27 = -1 ∧ ¬ ∃ F, fdF A B F) ∨ ∃ F : Nat, z.1 39 27 = F ∧ fdF A B F ∧ F < 23552 ∧ ∀ n, n ≤ F → ∀ c, rcK A B n c → c ∈ Qs)
theorem fn_s {A B : Aut} {Qs : List Int} {f f' : Int} {c : Int} (h : fnF A B Qs f) (hmax : ∀ x ∈ Qs, lvN A B x ≤ lvN A B c) (h1 : f < 0 ∧ goF A B c → f' = lvN A B c) (h2 : ¬ (f < 0 ∧ goF A B c) → f' = f) : fnF A B (Qs ++ [c]) f' := by
  have hm : ∀ x, x ∈ Qs ++ [c] ↔ x ∈ Qs ∨ x = c := fun x => by simp
  rcases h with ⟨e, hn⟩ | ⟨h0, ⟨c1, a1, a2, a3⟩, hle⟩
  · by_cases hg : goF A B c
    · have e1 := h1 ⟨by omega, hg⟩
      refine Or.inr ⟨by omega, ⟨c, (hm c).mpr (Or.inr rfl), hg, e1.symm⟩, fun x hx hgx => ?_⟩
      rcases (hm x).mp hx with hx | rfl
      · exact absurd hgx (hn x hx)
      · omega
    · have e1 := h2 (fun q => hg q.2)
      refine Or.inl ⟨by omega, fun x hx => ?_⟩
      rcases (hm x).mp hx with hx | rfl
      · exact hn x hx
      · exact hg
  · have e1 := h2 (fun q => by omega)
    refine Or.inr ⟨by omega, ⟨c1, (hm c1).mpr (Or.inl a1), a2, by omega⟩, fun x hx hgx => ?_⟩
    rcases (hm x).mp hx with hx | rfl
    · have := hle x hx hgx; omega
    · have := hmax c1 a1; omega
