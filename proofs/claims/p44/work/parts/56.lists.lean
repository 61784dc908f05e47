def ndF : List Int → Nat → Int
  | [], _ => 0
  | y :: _, 0 => y
  | _ :: t, i + 1 => ndF t i
def ixN : List Int → Int → Nat
  | [], _ => 0
  | y :: t, x => if y = x then 0 else ixN t x + 1
def ixF (L : List Int) (x : Int) : Int := if x ∈ L then (ixN L x : Nat) else -1
def insF (L : List Int) (x : Int) : List Int := if x ∈ L then L else L ++ [x]
def liF (f : Nat → Int) (c : Nat) : List Int := (List.range c).map f
def okL (L : List Int) : Prop := L.Nodup ∧ ∀ x ∈ L, 0 ≤ x ∧ x ≤ 15
theorem ndF_a {L M : List Int} {i : Nat} (h : i < L.length) : ndF (L ++ M) i = ndF L i := by
  induction L generalizing i with
  | nil => exact absurd h (Nat.not_lt_zero _)
  | cons y t ih =>
    cases i with
    | zero => rfl
    | succ i => exact ih (by simpa using h)
theorem ndF_b {L : List Int} {x : Int} : ndF (L ++ [x]) L.length = x := by
  induction L with
  | nil => rfl
  | cons y t ih => exact ih
theorem ndF_m {L : List Int} {i : Nat} (h : i < L.length) : ndF L i ∈ L := by
  induction L generalizing i with
  | nil => exact absurd h (Nat.not_lt_zero _)
  | cons y t ih =>
    cases i with
    | zero => exact List.mem_cons_self
    | succ i => exact List.mem_cons_of_mem _ (ih (by simpa using h))
theorem ixN_lt {L : List Int} {x : Int} (h : x ∈ L) : ixN L x < L.length ∧ ndF L (ixN L x) = x := by
  induction L with
  | nil => exact absurd h List.not_mem_nil
  | cons y t ih =>
    simp only [ixN]
    by_cases e : y = x
    · rw [if_pos e]
      exact ⟨by simp, e⟩
    · rw [if_neg e]
      have := ih (by
        rcases List.mem_cons.mp h with h | h
        · exact absurd h.symm e
        · exact h)
      exact ⟨by simpa using this.1, this.2⟩
theorem ixN_first {L : List Int} {x : Int} {i : Nat} (hi : i < L.length) (h : ndF L i = x) (hf : ∀ j, j < i → ndF L j ≠ x) : ixN L x = i := by
  induction L generalizing i with
  | nil => exact absurd hi (Nat.not_lt_zero _)
  | cons y t ih =>
    simp only [ixN]
    cases i with
    | zero => rw [if_pos (show y = x from h)]
    | succ i =>
      rw [if_neg (show ¬ y = x from hf 0 (Nat.succ_pos _)), ih (by simpa using hi) h (fun j hj => hf (j + 1) (by omega))]
theorem ndF_inj {L : List Int} (h : L.Nodup) {i j : Nat} (hi : i < L.length) (hj : j < L.length) (e : ndF L i = ndF L j) : i = j := by
  induction L generalizing i j with
  | nil => exact absurd hi (Nat.not_lt_zero _)
  | cons y t ih =>
    rw [List.nodup_cons] at h
    cases i with
    | zero =>
      cases j with
      | zero => rfl
      | succ j =>
        have : y = ndF t j := e
        exact absurd (this ▸ ndF_m (by simpa using hj)) h.1
    | succ i =>
      cases j with
      | zero =>
        have : ndF t i = y := e
        exact absurd (this ▸ ndF_m (by simpa using hi)) h.1
      | succ j => rw [ih h.2 (by simpa using hi) (by simpa using hj) e]
theorem ixF_nd {L : List Int} (h : L.Nodup) {i : Nat} (hi : i < L.length) : ixF L (ndF L i) = i := by
  unfold ixF
  rw [if_pos (ndF_m hi), ixN_first hi rfl (fun j hj e => by have := ndF_inj h (by omega) hi e; omega)]
theorem ixF_r {L : List Int} {x : Int} (h : x ∈ L) : 0 ≤ ixF L x ∧ ixF L x < L.length ∧ ndF L (ixF L x).toNat = x := by
  obtain ⟨a, b⟩ := ixN_lt h
  unfold ixF
  rw [if_pos h]
  exact ⟨by omega, by omega, by rw [Int.toNat_natCast]; exact b⟩
theorem ixN_a {L M : List Int} {x : Int} (h : x ∈ L) : ixN (L ++ M) x = ixN L x := by
  obtain ⟨a, b⟩ := ixN_lt h
  refine ixN_first (by rw [List.length_append]; omega) (by rw [ndF_a a]; exact b) (fun j hj e => ?_)
  rw [ndF_a (by omega)] at e
  have : ∀ (L : List Int) (j : Nat), j < ixN L x → ndF L j = x → x ∈ L → False := by
    intro L
    induction L with
    | nil => intro j _ _ h; exact absurd h List.not_mem_nil
    | cons y t ih =>
      intro j hj e hm
      simp only [ixN] at hj
      by_cases ey : y = x
      · rw [if_pos ey] at hj; exact absurd hj (Nat.not_lt_zero _)
      · rw [if_neg ey] at hj
        cases j with
        | zero => exact ey e
        | succ j =>
          refine ih j (by omega) e ?_
          rcases List.mem_cons.mp hm with h | h
          · exact absurd h.symm ey
          · exact h
  exact this L j hj e h
theorem ixF_s {L : List Int} {x y : Int} (h : x ∉ L) : ixF (L ++ [x]) y = if y = x then (L.length : Int) else ixF L y := by
  unfold ixF
  by_cases e : y = x
  · subst e
    rw [if_pos (by simp), if_pos rfl, ixN_first (i := L.length) (by simp) ndF_b (fun j hj e => h (by rw [ndF_a hj] at e; rw [← e]; exact ndF_m hj))]
  · rw [if_neg e]
    by_cases hy : y ∈ L
    · rw [if_pos (List.mem_append_left _ hy), if_pos hy, ixN_a hy]
    · rw [if_neg (by simp [hy, e]), if_neg hy]
theorem liF_len (f : Nat → Int) (c : Nat) : (liF f c).length = c := by simp [liF]
theorem liF_s (f : Nat → Int) (c : Nat) : liF f (c + 1) = liF f c ++ [f c] := by simp [liF, List.range_succ]
theorem liF_e {f g : Nat → Int} {c : Nat} (h : ∀ i, i < c → f i = g i) : liF f c = liF g c := List.map_congr_left fun i hi => h i (List.mem_range.mp hi)
theorem liF_nd {f : Nat → Int} {c i : Nat} (h : i < c) : ndF (liF f c) i = f i := by
  induction c with
  | zero => exact absurd h (Nat.not_lt_zero _)
  | succ c ih =>
    rw [liF_s]
    by_cases e : i = c
    · subst e
      have := ndF_b (L := liF f i) (x := f i)
      rw [liF_len] at this
      exact this
    · rw [ndF_a (by rw [liF_len]; omega)]
      exact ih (by omega)
theorem liF_m {f : Nat → Int} {c : Nat} {x : Int} : x ∈ liF f c ↔ ∃ i, i < c ∧ f i = x := by
  simp [liF]
theorem nd_len (n : Nat) : ∀ L : List Int, L.Nodup → (∀ x ∈ L, 0 ≤ x ∧ x < n) → L.length ≤ n := by
  induction n with
  | zero =>
    intro L _ h
    cases L with
    | nil => exact Nat.le_refl _
    | cons y t => have := h y List.mem_cons_self; omega
  | succ n ih =>
    intro L hn h
    have h1 := ih (L.erase (n : Int)) (hn.erase _) (fun x hx => by
      have hm := List.mem_of_mem_erase hx
      have hne : x ≠ n := fun e => by subst e; exact (List.Nodup.not_mem_erase hn) hx
      have := h x hm
      omega)
    have h2 : L.length ≤ (L.erase (n : Int)).length + 1 := by
      rw [List.length_erase]
      split <;> omega
    omega
theorem okL_len {L : List Int} (h : okL L) : L.length ≤ 16 := nd_len 16 L h.1 fun x hx => by have := h.2 x hx; omega
theorem insF_ok {L : List Int} {x : Int} (h : okL L) (hx : 0 ≤ x ∧ x ≤ 15) : okL (insF L x) := by
  unfold insF
  split
  · exact h
  · rename_i hn
    refine ⟨?_, fun y hy => ?_⟩
    · rw [List.nodup_append]
      refine ⟨h.1, by simp, fun a ha b hb => ?_⟩
      simp only [List.mem_singleton] at hb
      subst hb
      intro e
      subst e
      exact hn ha
    · rcases List.mem_append.mp hy with hy | hy
      · exact h.2 y hy
      · simp only [List.mem_singleton] at hy
        subst hy
        exact hx
theorem insF_m {L : List Int} {x y : Int} : y ∈ insF L x ↔ y ∈ L ∨ y = x := by
  unfold insF
  split
  · rename_i h
    exact ⟨Or.inl, fun h2 => h2.elim id fun e => e ▸ h⟩
  · simp
theorem insF_p (L : List Int) (x : Int) : ∃ M, insF L x = L ++ M := by
  unfold insF
  split
  · exact ⟨[], (List.append_nil _).symm⟩
  · exact ⟨[x], rfl⟩
theorem okL_lt {L : List Int} {x : Int} (h : okL L) (hx : 0 ≤ x ∧ x ≤ 15) (hn : x ∉ L) : L.length < 16 := by
  have := okL_len (insF_ok h hx)
  unfold insF at this
  rw [if_neg hn, List.length_append] at this
  simp only [List.length_singleton] at this
  omega
/-- the successors of a set, all letters and valuations in their order -/
def dsR (A : Aut) (s : Int) : Nat → List Int → List Int
  | 0, L => L
  | k + 1, L => insF (dsR A s k L) (sbF A s ((k / 216 : Nat) : Int) ((k % 216 : Nat) : Int))
def dsO (A : Aut) : Nat → List Int
  | 0 => [A.2.1]
  | i + 1 => if i < (dsO A i).length then dsR A (ndF (dsO A i) i) 648 (dsO A i) else dsO A i
/-- the deterministic states -/
noncomputable def nSix : Nat := Classical.choose (⟨16, rfl⟩ : ∃ n : Nat, n = 16)
noncomputable def dsF (A : Aut) : List Int := dsO A nSix
theorem dsF_eq (A : Aut) : dsF A = dsO A 16 := by
  unfold dsF
  rw [show nSix = 16 from Classical.choose_spec (⟨16, rfl⟩ : ∃ n : Nat, n = 16)]
theorem dsR_ok {A : Aut} (hw : WfA A) (s : Int) {L : List Int} (h : okL L) (k : Nat) : okL (dsR A s k L) := by
  induction k with
  | zero => exact h
  | succ k ih => exact insF_ok ih (sbF_r hw _ _ _)
theorem dsR_p (A : Aut) (s : Int) (L : List Int) (k : Nat) : ∃ M, dsR A s k L = L ++ M := by
  induction k with
  | zero => exact ⟨[], (List.append_nil _).symm⟩
  | succ k ih =>
    obtain ⟨M, e⟩ := ih
    obtain ⟨M', e'⟩ := insF_p (dsR A s k L) (sbF A s ((k / 216 : Nat) : Int) ((k % 216 : Nat) : Int))
    exact ⟨M ++ M', by simp only [dsR]; rw [e', e, List.append_assoc]⟩
theorem dsR_m (A : Aut) (s : Int) (L : List Int) (k j : Nat) (hj : j < k) : sbF A s ((j / 216 : Nat) : Int) ((j % 216 : Nat) : Int) ∈ dsR A s k L := by
  induction k with
  | zero => exact absurd hj (Nat.not_lt_zero _)
  | succ k ih =>
    simp only [dsR]
    rw [insF_m]
    by_cases e : j = k
    · subst e; exact Or.inr rfl
    · exact Or.inl (ih (by omega))
theorem dsO_ok {A : Aut} (hw : WfA A) (i : Nat) : okL (dsO A i) := by
  induction i with
  | zero =>
    refine ⟨by simp [dsO], fun x hx => ?_⟩
    simp only [dsO, List.mem_singleton] at hx
    subst hx
    exact hw.2.1
  | succ i ih =>
    simp only [dsO]
    split
    · exact dsR_ok hw _ ih _
    · exact ih
theorem dsO_p (A : Aut) (i j : Nat) : ∃ M, dsO A (i + j) = dsO A i ++ M := by
  induction j with
  | zero => exact ⟨[], (List.append_nil _).symm⟩
  | succ j ih =>
    obtain ⟨M, e⟩ := ih
    rw [← Nat.add_assoc]
    simp only [dsO]
    split
    · obtain ⟨M', e'⟩ := dsR_p A (ndF (dsO A (i + j)) (i + j)) (dsO A (i + j)) 648
      exact ⟨M ++ M', by rw [e']; conv => lhs; lhs; rw [e]
                         rw [List.append_assoc]⟩
    · exact ⟨M, e⟩
theorem dsO_stop {A : Aut} {i : Nat} (h : (dsO A i).length ≤ i) (j : Nat) : dsO A (i + j) = dsO A i := by
  induction j with
  | zero => rfl
  | succ j ih =>
    rw [← Nat.add_assoc]
    simp only [dsO]
    rw [ih, if_neg (by omega)]
theorem dsF_stop {A : Aut} {i : Nat} (hi : i ≤ 16) (h : (dsO A i).length ≤ i) : dsF A = dsO A i := by
  rw [dsF_eq]
  have := dsO_stop h (16 - i)
  rwa [show i + (16 - i) = 16 by omega] at this
theorem dsF_ok {A : Aut} (hw : WfA A) : okL (dsF A) := by
  rw [dsF_eq]
  exact dsO_ok hw 16
theorem dsF_0 (A : Aut) : 0 < (dsF A).length ∧ ndF (dsF A) 0 = A.2.1 := by
  obtain ⟨M, e⟩ := dsO_p A 0 16
  rw [Nat.zero_add] at e
  rw [dsF_eq, e]
  exact ⟨by simp [dsO], rfl⟩
theorem dsF_c {A : Aut} (hw : WfA A) {n a v : Nat} (hn : n < (dsF A).length) (ha : a < 3) (hv : v < 216) : sbF A (ndF (dsF A) n) (a : Int) (v : Int) ∈ dsF A := by
  have h16 := okL_len (dsF_ok hw)
  have h1 : n < (dsO A n).length := by
    by_cases e : n < (dsO A n).length
    · exact e
    · have := dsF_stop (A := A) (i := n) (by omega) (by omega)
      rw [this] at hn
      exact absurd hn e
  obtain ⟨M, e⟩ := dsO_p A (n + 1) (16 - (n + 1))
  rw [show n + 1 + (16 - (n + 1)) = 16 by omega] at e
  obtain ⟨M', e'⟩ := dsO_p A n (16 - n)
  rw [show n + (16 - n) = 16 by omega] at e'
  have e2 : dsO A (n + 1) = dsR A (ndF (dsO A n) n) 648 (dsO A n) := by simp only [dsO]; rw [if_pos h1]
  have e3 : ndF (dsF A) n = ndF (dsO A n) n := by rw [dsF_eq, e', ndF_a h1]
  have h2 := dsR_m A (ndF (dsO A n) n) (dsO A n) 648 (216 * a + v) (by omega)
  rw [show (216 * a + v) / 216 = a by omega, show (216 * a + v) % 216 = v by omega, ← e2] at h2
  rw [e3, dsF_eq, e]
  exact List.mem_append_left _ h2
theorem dsF_mc {A : Aut} (hw : WfA A) {x : Int} {a v : Int} (hx : x ∈ dsF A) (ha : 0 ≤ a ∧ a ≤ 2) (hv : 0 ≤ v ∧ v < 216) : sbF A x a v ∈ dsF A := by
  obtain ⟨h1, h2⟩ := ixN_lt hx
  have := dsF_c hw h1 (a := a.toNat) (v := v.toNat) (by omega) (by omega)
  rw [h2, show ((a.toNat : Nat) : Int) = a by omega, show ((v.toNat : Nat) : Int) = v by omega] at this
  exact this
theorem dsF_i (A : Aut) : A.2.1 ∈ dsF A := by
  obtain ⟨h1, h2⟩ := dsF_0 A
  rw [← h2]
  exact ndF_m h1
theorem dsF_af {A : Aut} (hw : WfA A) {n : Int} {d l : Nat → Int} (hd : WdF n d l) (k : Nat) (hk : (k : Int) ≤ n) : afK A d l k ∈ dsF A := by
  induction k with
  | zero => exact dsF_i A
  | succ k ih =>
    have h1 := hd.2 k (by omega)
    exact dsF_mc hw (ih (by omega)) (by omega) (psF_r (by have := vaF_r hd k (by omega); omega))

