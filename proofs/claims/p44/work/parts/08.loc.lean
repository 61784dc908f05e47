/-! locals: the pure list against the machine's row -/
def pvAs : Nat → pvL → List (Nat × pvV)
  | _, [] => []
  | n, none :: t => pvAs (n + 1) t
  | n, some v :: t => (n, v) :: pvAs (n + 1) t
theorem pvLd_get (ls : pvL) (k : Nat) : pvLd ls k = (ls[k]?).join := by
  induction ls generalizing k with
  | nil => cases k <;> rfl
  | cons x t ih =>
    cases k with
    | zero => rfl
    | succ k => simpa [pvLd] using ih k
theorem pvAs_mem (ls : pvL) (n : Nat) (q : Nat × pvV) : q ∈ pvAs n ls ↔ n ≤ q.1 ∧ pvLd ls (q.1 - n) = some q.2 := by
  induction ls generalizing n with
  | nil =>
    simp only [pvAs, List.not_mem_nil, false_iff]
    rintro ⟨-, h⟩
    rw [pvLd_get] at h
    simp at h
  | cons x t ih =>
    cases x with
    | none =>
      simp only [pvAs, ih]
      constructor
      · rintro ⟨h1, h2⟩
        refine ⟨by omega, ?_⟩
        have : q.1 - n = (q.1 - (n + 1)) + 1 := by omega
        rw [this]
        exact h2
      · rintro ⟨h1, h2⟩
        by_cases e : q.1 = n
        · rw [e, Nat.sub_self] at h2
          simp [pvLd] at h2
        · refine ⟨by omega, ?_⟩
          have : q.1 - n = (q.1 - (n + 1)) + 1 := by omega
          rw [this] at h2
          exact h2
    | some v =>
      simp only [pvAs, List.mem_cons, ih]
      constructor
      · rintro (rfl | ⟨h1, h2⟩)
        · exact ⟨Nat.le_refl _, by rw [Nat.sub_self]; rfl⟩
        · refine ⟨by omega, ?_⟩
          have : q.1 - n = (q.1 - (n + 1)) + 1 := by omega
          rw [this]
          exact h2
      · rintro ⟨h1, h2⟩
        by_cases e : q.1 = n
        · rw [e, Nat.sub_self] at h2
          left
          simp only [pvLd, Option.some.injEq] at h2
          rw [h2, ← e]
        · right
          refine ⟨by omega, ?_⟩
          have : q.1 - n = (q.1 - (n + 1)) + 1 := by omega
          rw [this] at h2
          exact h2
def pvAr (ad : Nat → Nat) (ls : pvL) : List (Nat × Value) := (pvAs 0 ls).map fun q => (q.1, pvRe ad q.2)
def pvLh (ad : Nat → Nat) (ls : pvL) (arr : Array Slot) (nL : Nat) : Prop := lv_has arr nL (pvAr ad ls) ∧ ls.length = nL
theorem pvLh_ld {ad : Nat → Nat} {ls : pvL} {arr : Array Slot} {nL k : Nat} {v : pvV} (h : pvLh ad ls arr nL) (hk : pvLd ls k = some v) : arr[k]? = some (.val (pvRe ad v)) := by
  refine h.1.2.2 (k, pvRe ad v) (List.mem_map.mpr ⟨(k, v), (pvAs_mem ls 0 (k, v)).mpr ⟨Nat.zero_le _, ?_⟩, rfl⟩)
  simpa using hk
theorem pvRe_cat (ad : Nat → Nat) (v : pvV) : (pvRe ad v).category = pvCat v := by
  rcases v with a | a | a | a | a <;> rfl
theorem pvS1_len (ls : pvL) (k : Nat) (v : pvV) : (pvS1 ls k v).length = ls.length := by
  fun_induction pvS1 ls k v <;> simp_all
theorem pvS2_len (ls : pvL) (k : Nat) (v : pvV) : (pvS2 ls k v).length = ls.length := by
  fun_induction pvS2 ls k v <;> simp_all
theorem pvClr_some {x : Option pvV} {w : pvV} (h : pvClr x = some w) : x = some w ∧ pvCat w ≠ 2 := by
  cases x with
  | none => cases h
  | some y =>
    simp only [pvClr] at h
    split at h
    · cases h
    · rename_i hc
      cases h
      exact ⟨rfl, hc⟩
theorem pvS1_ld (ls : pvL) (k : Nat) (v : pvV) (i : Nat) (w : pvV) (h : pvLd (pvS1 ls k v) i = some w) : (i = k ∧ w = v) ∨ (i ≠ k ∧ pvLd ls i = some w ∧ ¬ (i + 1 = k ∧ pvCat w = 2)) := by
  fun_induction pvS1 ls k v generalizing i with
  | case1 => cases h
  | case2 x t =>
    cases i with
    | zero => left; simp only [pvLd, Option.some.injEq] at h; exact ⟨rfl, h.symm⟩
    | succ i => right; exact ⟨by omega, h, by omega⟩
  | case3 x t v ih =>
    cases i with
    | zero =>
      right
      simp only [pvLd] at h
      obtain ⟨h1, h2⟩ := pvClr_some h
      exact ⟨by omega, h1, fun e => h2 e.2⟩
    | succ i =>
      simp only [pvLd] at h
      rcases ih i h with ⟨a, b⟩ | ⟨a, b, c⟩
      · left; exact ⟨by omega, b⟩
      · right; exact ⟨by omega, b, by omega⟩
  | case4 x t k v ih =>
    cases i with
    | zero => right; exact ⟨by omega, h, by omega⟩
    | succ i =>
      simp only [pvLd] at h
      rcases ih i h with ⟨a, b⟩ | ⟨a, b, c⟩
      · left; exact ⟨by omega, b⟩
      · right; exact ⟨by omega, b, fun e => c ⟨by omega, e.2⟩⟩
theorem pvS2_ld (ls : pvL) (k : Nat) (v : pvV) (i : Nat) (w : pvV) (hk : k + 1 < ls.length) (h : pvLd (pvS2 ls k v) i = some w) : (i = k ∧ w = v) ∨ (i ≠ k ∧ i ≠ k + 1 ∧ pvLd ls i = some w ∧ ¬ (i + 1 = k ∧ pvCat w = 2)) := by
  fun_induction pvS2 ls k v generalizing i with
  | case1 => cases h
  | case2 => simp only [List.length_cons, List.length_nil] at hk; omega
  | case3 x y t v =>
    match i, h with
    | 0, h => left; simp only [pvLd, Option.some.injEq] at h; exact ⟨rfl, h.symm⟩
    | 1, h => simp [pvLd] at h
    | i + 2, h => right; exact ⟨by omega, by omega, h, by omega⟩
  | case4 x y t v ih =>
    cases i with
    | zero =>
      right
      simp only [pvLd] at h
      obtain ⟨h1, h2⟩ := pvClr_some h
      exact ⟨by omega, by omega, h1, fun e => h2 e.2⟩
    | succ i =>
      simp only [pvLd] at h
      rcases ih i (by simp only [List.length_cons] at hk ⊢; omega) h with ⟨a, b⟩ | ⟨a, a', b, c⟩
      · left; exact ⟨by omega, b⟩
      · right; exact ⟨by omega, by omega, b, by omega⟩
  | case5 x t k v h1 ih =>
    cases i with
    | zero => right; exact ⟨by omega, by omega, h, by omega⟩
    | succ i =>
      simp only [pvLd] at h
      rcases ih i (by simp only [List.length_cons] at hk ⊢; omega) h with ⟨a, b⟩ | ⟨a, a', b, c⟩
      · left; exact ⟨by omega, b⟩
      · right; exact ⟨by omega, by omega, b, fun e => c ⟨by omega, e.2⟩⟩
theorem lv_has_sub {arr : Array Slot} {n : Nat} {l l' : List (Nat × Value)} (h : lv_has arr n l) (hs : ∀ q ∈ l', q ∈ l) : lv_has arr n l' := ⟨h.1, h.2.1, fun q hq => h.2.2 q (hs q hq)⟩
theorem pvLh_s1 {ad : Nat → Nat} {ls : pvL} {arr arr' : Array Slot} {nL k : Nat} {v : pvV} (h : pvLh ad ls arr nL)
    (h' : lv_has arr' nL ((k, pvRe ad v) :: (pvAr ad ls).filter (fun q => !(q.1 == k) && !(q.1 + 1 == k && q.2.category == 2)))) : pvLh ad (pvS1 ls k v) arr' nL := by
  refine ⟨lv_has_sub h' ?_, by rw [pvS1_len]; exact h.2⟩
  rintro ⟨i, x⟩ hq
  obtain ⟨⟨i', w⟩, hm, he⟩ := List.mem_map.mp hq
  simp only [Prod.mk.injEq] at he
  obtain ⟨rfl, rfl⟩ := he
  have h1 := ((pvAs_mem _ _ _).mp hm).2
  rw [Nat.sub_zero] at h1
  rcases pvS1_ld _ _ _ _ _ h1 with ⟨rfl, rfl⟩ | ⟨a, b, c⟩
  · exact List.mem_cons_self
  · refine List.mem_cons_of_mem _ (List.mem_filter.mpr ⟨List.mem_map.mpr ⟨(i', w), (pvAs_mem _ _ _).mpr ⟨Nat.zero_le _, b⟩, rfl⟩, ?_⟩)
    simp only [pvRe_cat, Bool.and_eq_true, Bool.not_eq_true', beq_eq_false_iff_ne, ne_eq, Bool.and_eq_false_iff]
    refine ⟨a, ?_⟩
    by_cases e : i' + 1 = k
    · right; exact fun z => c ⟨e, z⟩
    · left; exact e
theorem pvLh_s2 {ad : Nat → Nat} {ls : pvL} {arr arr' : Array Slot} {nL k : Nat} {v : pvV} (h : pvLh ad ls arr nL) (hk : k + 1 < ls.length)
    (h' : lv_has arr' nL ((k, pvRe ad v) :: (pvAr ad ls).filter (fun q => !(q.1 == k) && (!(q.1 == k + 1) && !(q.1 + 1 == k && q.2.category == 2))))) : pvLh ad (pvS2 ls k v) arr' nL := by
  refine ⟨lv_has_sub h' ?_, by rw [pvS2_len]; exact h.2⟩
  rintro ⟨i, x⟩ hq
  obtain ⟨⟨i', w⟩, hm, he⟩ := List.mem_map.mp hq
  simp only [Prod.mk.injEq] at he
  obtain ⟨rfl, rfl⟩ := he
  have h1 := ((pvAs_mem _ _ _).mp hm).2
  rw [Nat.sub_zero] at h1
  rcases pvS2_ld _ _ _ _ _ hk h1 with ⟨rfl, rfl⟩ | ⟨a, a', b, c⟩
  · exact List.mem_cons_self
  · refine List.mem_cons_of_mem _ (List.mem_filter.mpr ⟨List.mem_map.mpr ⟨(i', w), (pvAs_mem _ _ _).mpr ⟨Nat.zero_le _, b⟩, rfl⟩, ?_⟩)
    simp only [pvRe_cat, Bool.and_eq_true, Bool.not_eq_true', beq_eq_false_iff_ne, ne_eq, Bool.and_eq_false_iff]
    refine ⟨a, a', ?_⟩
    by_cases e : i' + 1 = k
    · right; exact fun z => c ⟨e, z⟩
    · left; exact e
theorem pvMk_ld (mm : List Bool) (ls : pvL) (k : Nat) (v : pvV) (h : pvLd (pvMk mm ls) k = some v) : pvLd ls k = some v := by
  induction mm generalizing ls k with
  | nil =>
    exfalso
    have e : pvMk [] ls = ls.map fun _ => none := by cases ls <;> rfl
    rw [e, pvLd_get] at h
    rw [List.getElem?_map] at h
    cases hq : ls[k]? <;> simp [hq] at h
  | cons b bs ih =>
    cases ls with
    | nil =>
      exfalso
      simp [pvMk, pvLd] at h
    | cons x t =>
      cases k with
      | zero =>
        simp only [pvMk, pvLd] at h ⊢
        split at h
        · exact h
        · cases h
      | succ k => exact ih t k h
theorem pvMk_len (mm : List Bool) (ls : pvL) : (pvMk mm ls).length = ls.length := by
  induction mm generalizing ls with
  | nil => cases ls <;> simp [pvMk]
  | cons b bs ih => cases ls with
    | nil => simp [pvMk]
    | cons x t => simp [pvMk, ih]
theorem pvLh_mk {ad : Nat → Nat} {ls : pvL} {arr : Array Slot} {nL : Nat} (mm : List Bool) (h : pvLh ad ls arr nL) : pvLh ad (pvMk mm ls) arr nL := by
  refine ⟨lv_has_sub h.1 ?_, by rw [pvMk_len]; exact h.2⟩
  rintro ⟨i, x⟩ hq
  obtain ⟨⟨i', w⟩, hm, he⟩ := List.mem_map.mp hq
  simp only [Prod.mk.injEq] at he
  obtain ⟨rfl, rfl⟩ := he
  have h1 := ((pvAs_mem _ _ _).mp hm).2
  rw [Nat.sub_zero] at h1
  exact List.mem_map.mpr ⟨(i', w), (pvAs_mem _ _ _).mpr ⟨Nat.zero_le _, pvMk_ld _ _ _ _ h1⟩, rfl⟩
theorem pvOkL_s1 {ls : pvL} {k : Nat} {v : pvV} (h : pvOkL ls) (hv : pvOk v) : pvOkL (pvS1 ls k v) := by
  intro i w hw
  rcases pvS1_ld _ _ _ _ _ hw with ⟨-, rfl⟩ | ⟨-, b, -⟩
  · exact hv
  · exact h _ _ b
theorem pvOkL_s2 {ls : pvL} {k : Nat} {v : pvV} (h : pvOkL ls) (hv : pvOk v) (hk : k + 1 < ls.length) : pvOkL (pvS2 ls k v) := by
  intro i w hw
  rcases pvS2_ld _ _ _ _ _ hk hw with ⟨-, rfl⟩ | ⟨-, -, b, -⟩
  · exact hv
  · exact h _ _ b
theorem pvOkL_mk {ls : pvL} (mm : List Bool) (h : pvOkL ls) : pvOkL (pvMk mm ls) := fun i w hw => h _ _ (pvMk_ld _ _ _ _ hw)
theorem pvOkS_c {v : pvV} {st : List pvV} (hv : pvOk v) (h : pvOkS st) : pvOkS (v :: st) := fun w hw => (List.mem_cons.mp hw).elim (fun e => e ▸ hv) (h w)
theorem pvOkS_t {v : pvV} {st : List pvV} (h : pvOkS (v :: st)) : pvOkS st := fun w hw => h w (List.mem_cons_of_mem _ hw)
theorem pvOkS_h {v : pvV} {st : List pvV} (h : pvOkS (v :: st)) : pvOk v := h v List.mem_cons_self
theorem pvRng_up {z : pvM} {i k : Nat} {v : Int} (h : pvRng z) (hv : pvR v) : pvRng (pvUp z.1 i k v, z.2) := by
  intro a b
  show pvR (pvUp z.1 i k v a b)
  unfold pvUp
  split
  · exact hv
  · exact h a b
