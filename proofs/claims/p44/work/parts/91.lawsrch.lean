/-! searches, by words -/
def cfF (A B : Aut) (d l : Nat → Int) (e : Nat) : Int := 256 * vaF d l e + 16 * afK A d l e + afK B d l e
theorem cf_d {A B : Aut} (hA : WfA A) (hB : WfA B) {n : Int} {d l : Nat → Int} (hw : WdF n d l) {e : Nat} (he : (e : Int) ≤ n) : cfF A B d l e / 256 = vaF d l e ∧ cfF A B d l e / 16 % 16 = afK A d l e ∧ cfF A B d l e % 16 = afK B d l e := by
  have h1 := vaF_r hw e he
  have h2 := afK_r hA d l e
  have h3 := afK_r hB d l e
  unfold cfF
  omega
theorem cf_0 {A B : Aut} {d l : Nat → Int} : cfF A B d l 0 = c0F A B := rfl
theorem cf_nn {A B : Aut} (hA : WfA A) (hB : WfA B) {n : Int} {d l : Nat → Int} (hw : WdF n d l) {e : Nat} (he : (e : Int) ≤ n) : 0 ≤ cfF A B d l e := by
  have h1 := vaF_r hw e he
  have h2 := afK_r hA d l e
  have h3 := afK_r hB d l e
  unfold cfF
  omega
theorem cf_s {A B : Aut} (hA : WfA A) (hB : WfA B) {n : Int} {d l : Nat → Int} (hw : WdF n d l) {e : Nat} (he : (e : Int) < n) (hne : afK A d l (e + 1) ≠ 0) : stF1 A B (cfF A B d l e) (l e) (d e) = cfF A B d l (e + 1) := by
  obtain ⟨h1, h2, h3⟩ := cf_d hA hB hw (e := e) (by omega)
  have hne' : ¬ sbF A (afK A d l e) (l e) (psF (vaF d l e) (d e)) = 0 := hne
  unfold stF1
  rw [h1, h2, h3, if_neg hne']
  rfl
theorem cf_m1 {A B : Aut} (hA : WfA A) (hB : WfA B) {n : Int} {d l : Nat → Int} (hw : WdF n d l) {e : Nat} (he : (e : Int) < n) (hz : afK A d l (e + 1) = 0) : stF1 A B (cfF A B d l e) (l e) (d e) = -1 := by
  obtain ⟨h1, h2, h3⟩ := cf_d hA hB hw (e := e) (by omega)
  have hz' : sbF A (afK A d l e) (l e) (psF (vaF d l e) (d e)) = 0 := hz
  unfold stF1
  rw [h1, h2, h3, if_pos hz']
theorem btF_0 (q : Int) : btF 0 q = false := by
  unfold btF
  simp
theorem sbK_z (T : Nat → Nat → Int) (a v : Int) (k : Nat) : sbK T 0 a v k = 0 := by
  induction k with
  | zero => rfl
  | succ k ih =>
    simp only [sbK, ih]
    rw [if_neg (fun h => by rw [btF_0] at h; exact absurd h.1 (by decide))]
theorem af_z {A : Aut} {d l : Nat → Int} {e : Nat} (h : afK A d l e = 0) (k : Nat) : afK A d l (e + k) = 0 := by
  induction k with
  | zero => exact h
  | succ k ih =>
    show sbF A (afK A d l (e + k)) _ _ = 0
    rw [ih]
    exact sbK_z _ _ _ _
theorem af_nz {A : Aut} {d l : Nat → Int} {n : Nat} (h : afK A d l n ≠ 0) {e : Nat} (he : e ≤ n) : afK A d l e ≠ 0 := fun q => h (by
  have := af_z q (n - e)
  rw [show e + (n - e) = n by omega] at this
  exact this)
theorem af_e {A : Aut} {d l d' l' : Nat → Int} (k : Nat) (h : ∀ j, j < k → d' j = d j ∧ l' j = l j) : afK A d' l' k = afK A d l k := by
  induction k with
  | zero => rfl
  | succ k ih =>
    simp only [afK]
    rw [ih (fun j hj => h j (by omega)), vaF_e k (fun j hj => h j (by omega)), (h k (by omega)).1, (h k (by omega)).2]
theorem cf_e {A B : Aut} {d l d' l' : Nat → Int} (k : Nat) (h : ∀ j, j < k → d' j = d j ∧ l' j = l j) : cfF A B d' l' k = cfF A B d l k := by
  unfold cfF
  rw [af_e k h, af_e k h, vaF_e k h]
theorem wd_m {n m : Int} {d l : Nat → Int} (h : WdF n d l) (hm : 0 ≤ m ∧ m ≤ n) : WdF m d l := ⟨⟨hm.1, by have := h.1; omega⟩, fun k hk => h.2 k (by omega)⟩
/-- from a configuration that is reached with m events a word's way on -/
theorem rc_on {A B : Aut} (hA : WfA A) (hB : WfA B) {n : Nat} {d l : Nat → Int} (hw : WdF n d l) (hne : afK A d l n ≠ 0) {j m : Nat} (h : rcK A B m (cfF A B d l j)) (k : Nat) (hk : j + k ≤ n) : rcK A B (m + k) (cfF A B d l (j + k)) := by
  induction k with
  | zero => exact h
  | succ k ih =>
    have h2 := hw.2 (j + k) (by omega)
    exact ⟨cfF A B d l (j + k), l (j + k), d (j + k), ih (by omega), h2.2, h2.1, cf_s hA hB hw (by omega) (af_nz hne (by omega)), cf_nn hA hB hw (by omega)⟩
theorem rc_word {A B : Aut} (hA : WfA A) (hB : WfA B) {n : Nat} {d l : Nat → Int} (hw : WdF n d l) (hne : afK A d l n ≠ 0) {k : Nat} (hk : k ≤ n) : rcK A B k (cfF A B d l k) := by
  have := rc_on hA hB hw hne (j := 0) (m := 0) (show rcK A B 0 (cfF A B d l 0) from cf_0) k (by omega)
  rw [Nat.zero_add] at this
  exact this
theorem word_rc {A B : Aut} (hA : WfA A) (hB : WfA B) (n : Nat) : n ≤ 10 → ∀ c, rcK A B n c → ∃ d l : Nat → Int, WdF n d l ∧ c = cfF A B d l n := by
  induction n with
  | zero => exact fun _ c h => ⟨fun _ => 0, fun _ => 0, ⟨⟨by decide, by decide⟩, fun k hk => absurd hk (by omega)⟩, h⟩
  | succ n ih =>
    rintro hn c ⟨c', a, b, h1, ha, hb, h2, h3⟩
    obtain ⟨d, l, hw, rfl⟩ := ih (by omega) c' h1
    let d' : Nat → Int := fun k => if k = n then b else d k
    let l' : Nat → Int := fun k => if k = n then a else l k
    have hw' : WdF ((n + 1 : Nat) : Int) d' l' := by
      refine ⟨by omega, fun k hk => ?_⟩
      show (0 ≤ (if k = n then b else d k) ∧ (if k = n then b else d k) ≤ 4) ∧ 0 ≤ (if k = n then a else l k) ∧ (if k = n then a else l k) ≤ 2
      by_cases e : k = n
      · rw [if_pos e, if_pos e]; exact ⟨hb, ha⟩
      · rw [if_neg e, if_neg e]; exact hw.2 k (by omega)
    have e1 : cfF A B d' l' n = cfF A B d l n := cf_e n (fun j hj => ⟨if_neg (by omega), if_neg (by omega)⟩)
    have e2 : d' n = b := if_pos rfl
    have e3 : l' n = a := if_pos rfl
    refine ⟨d', l', hw', ?_⟩
    by_cases hz : afK A d' l' (n + 1) = 0
    · have := cf_m1 hA hB hw' (e := n) (by omega) hz
      rw [e1, e2, e3, h2] at this
      omega
    · have := cf_s hA hB hw' (e := n) (by omega) hz
      rw [e1, e2, e3, h2] at this
      exact this
theorem pvAnd_0 {x : Int} (hx : 0 ≤ x ∧ x ≤ 15) : pvAnd 0 x = 0 := by
  obtain ⟨x, rfl⟩ := fin_of (a := x) (n := 16) (by omega)
  revert x
  decide +kernel
theorem go_nz {A B : Aut} (hA : WfA A) (hB : WfA B) {n : Nat} {d l : Nat → Int} (hw : WdF n d l) (h : goF A B (cfF A B d l n)) : afK A d l n ≠ 0 := fun e => h.1 (by
  rw [(cf_d hA hB hw (e := n) (by omega)).2.1, e]
  exact pvAnd_0 hA.2.2.1)
theorem fd_no {A B : Aut} (hA : WfA A) (hB : WfA B) (h : ¬ ∃ F, F ≤ 10 ∧ fdF A B F) {n : Nat} (hn : n ≤ 10) {d l : Nat → Int} (hw : WdF n d l) : ¬ goF A B (cfF A B d l n) := fun hg => by
  obtain ⟨F, h1, h2⟩ := fd_ex (rc_word hA hB hw (go_nz hA hB hw hg) (Nat.le_refl n)) hg
  exact h ⟨F, by omega, h2⟩
theorem fd_lt {A B : Aut} (hA : WfA A) (hB : WfA B) {F : Nat} (h : fdF A B F) {n : Nat} (hn : n < F) {d l : Nat → Int} (hw : WdF n d l) : ¬ goF A B (cfF A B d l n) := fun hg =>
  h.2 n hn _ (rc_word hA hB hw (go_nz hA hB hw hg) (Nat.le_refl n)) hg
/-- the word that is taken -/
def tkP (A B : Aut) (F : Nat) (d l : Nat → Int) : Prop := ∀ j : Nat, j < F → d j = ((nkF A B F j (wcF A B F j) % 5 : Nat) : Int) ∧ l j = ((nkF A B F j (wcF A B F j) / 5 : Nat) : Int)
theorem tk_w {A B : Aut} (hA : WfA A) (hB : WfA B) {F : Nat} (hf : fdF A B F) (hF : F ≤ 10) {d l : Nat → Int} (h : tkP A B F d l) : WdF F d l := by
  refine ⟨by omega, fun k hk => ?_⟩
  obtain ⟨h1, h2⟩ := wc_ok hA hB hf hF k (by omega)
  have h3 := (nk_sp (by omega) h2).1
  obtain ⟨e1, e2⟩ := h k (by omega)
  rw [e1, e2]
  omega
theorem tk_c {A B : Aut} (hA : WfA A) (hB : WfA B) {F : Nat} (hf : fdF A B F) (hF : F ≤ 10) {d l : Nat → Int} (h : tkP A B F d l) (j : Nat) (hj : j ≤ F) : wcF A B F j = cfF A B d l j := by
  have hw := tk_w hA hB hf hF h
  induction j with
  | zero => rfl
  | succ j ih =>
    have ih := ih (by omega)
    obtain ⟨h1, -⟩ := wc_ok hA hB hf hF (j + 1) hj
    have h2 := (rc_ok hA hB _ _ h1.1).1
    obtain ⟨e1, e2⟩ := h j (by omega)
    have e3 : wcF A B F (j + 1) = stF1 A B (cfF A B d l j) (l j) (d j) := by
      rw [e1, e2, ← ih]
      rfl
    by_cases hz : afK A d l (j + 1) = 0
    · rw [e3, cf_m1 hA hB hw (by omega) hz] at h2
      omega
    · rw [e3, cf_s hA hB hw (by omega) hz]
theorem tk_g {A B : Aut} (hA : WfA A) (hB : WfA B) {F : Nat} (hf : fdF A B F) (hF : F ≤ 10) {d l : Nat → Int} (h : tkP A B F d l) : goF A B (cfF A B d l F) := by
  obtain ⟨-, h2⟩ := wc_ok hA hB hf hF F (Nat.le_refl F)
  rw [Nat.sub_self, tk_c hA hB hf hF h F (Nat.le_refl F)] at h2
  simp only [coK] at h2
  by_cases hg : goB A B (cfF A B d l F) = true
  · exact goB_t.mp hg
  · rw [if_neg hg] at h2
    omega
/-- on a shortest word each configuration is reached with no fewer events -/
theorem lq_word {A B : Aut} (hA : WfA A) (hB : WfA B) {F : Nat} (hf : fdF A B F) {d l : Nat → Int} (hw : WdF F d l) (hg : goF A B (cfF A B d l F)) {j : Nat} (hj : j ≤ F) : lqF A B j (cfF A B d l j) := by
  have hne := go_nz hA hB hw hg
  refine ⟨rc_word hA hB hw hne hj, fun m hm hr => ?_⟩
  have h1 := rc_on hA hB hw hne hr (F - j) (by omega)
  rw [show j + (F - j) = F by omega] at h1
  exact hf.2 _ (by omega) _ h1 hg
/-- an event's number among 15 -/
def evN (d l : Nat → Int) (j : Nat) : Nat := (5 * l j + d j).toNat
theorem evN_d {n : Int} {d l : Nat → Int} (hw : WdF n d l) {j : Nat} (hj : (j : Int) < n) : evN d l j < 15 ∧ ((evN d l j / 5 : Nat) : Int) = l j ∧ ((evN d l j % 5 : Nat) : Int) = d j := by
  have := hw.2 j hj
  unfold evN
  omega
/-- a step of a shortest word, and the least sum -/
theorem co_step {A B : Aut} (hA : WfA A) (hB : WfA B) {F : Nat} (hf : fdF A B F) {d l : Nat → Int} (hw : WdF F d l) (hg : goF A B (cfF A B d l F)) {j : Nat} (hj : j < F) :
    stF1 A B (cfF A B d l j) ((evN d l j / 5 : Nat) : Int) ((evN d l j % 5 : Nat) : Int) = cfF A B d l (j + 1) ∧ lvB A B (j + 1) (cfF A B d l (j + 1)) = true ∧ coK A B F (F - j) (cfF A B d l j) ≤ coK A B F (F - (j + 1)) (cfF A B d l (j + 1)) + d j := by
  obtain ⟨h1, h2, h3⟩ := evN_d hw (j := j) (by omega)
  have hne := go_nz hA hB hw hg
  have hst : stF1 A B (cfF A B d l j) ((evN d l j / 5 : Nat) : Int) ((evN d l j % 5 : Nat) : Int) = cfF A B d l (j + 1) := by
    rw [h2, h3]
    exact cf_s hA hB hw (by omega) (af_nz hne (by omega))
  have hlv : lvB A B (j + 1) (cfF A B d l (j + 1)) = true := lvB_t.mpr (lq_word hA hB hf hw hg (by omega))
  refine ⟨hst, hlv, ?_⟩
  have e : F - j = (F - (j + 1)) + 1 := by omega
  have h4 := mnK_le (A := A) (B := B) (lev := F - (F - (j + 1))) (co := coK A B F (F - (j + 1))) (c := cfF A B d l j) nFif (evN d l j) (by rw [nFif_eq]; exact h1) (by rw [hst, show F - (F - (j + 1)) = j + 1 by omega]; exact hlv)
  rw [hst, h3] at h4
  rw [e]
  exact h4
theorem co_low {A B : Aut} (hA : WfA A) (hB : WfA B) {F : Nat} (hf : fdF A B F) {d l : Nat → Int} (hw : WdF F d l) (hg : goF A B (cfF A B d l F)) (m : Nat) (hm : m ≤ F) : coK A B F m (cfF A B d l (F - m)) + suS d (F - m) ≤ suS d F := by
  induction m with
  | zero =>
    have : coK A B F 0 (cfF A B d l F) = 0 := if_pos (goB_t.mpr hg)
    rw [Nat.sub_zero, this]
    omega
  | succ m ih =>
    obtain ⟨-, -, h3⟩ := co_step hA hB hf hw hg (j := F - (m + 1)) (by omega)
    rw [show F - (F - (m + 1)) = m + 1 by omega, show F - (F - (m + 1) + 1) = m by omega, show F - (m + 1) + 1 = F - m by omega] at h3
    have h4 := ih (by omega)
    have h5 : suS d (F - m) = suS d (F - (m + 1)) + d (F - (m + 1)) := by
      rw [show F - m = (F - (m + 1)) + 1 by omega]
      rfl
    omega
/-- the word that is taken: its sum, and each of its events is the first that goes on with the least sum -/
theorem tk_n {A B : Aut} (hA : WfA A) (hB : WfA B) {F : Nat} (hf : fdF A B F) (hF : F ≤ 10) {d l : Nat → Int} (h : tkP A B F d l) {j : Nat} (hj : j < F) :
    nxP A B F j (cfF A B d l j) (evN d l j) ∧ ∀ i, i < evN d l j → ¬ nxP A B F j (cfF A B d l j) i := by
  obtain ⟨-, h2⟩ := wc_ok hA hB hf hF j (by omega)
  obtain ⟨h3, h4, h5⟩ := nk_sp (by omega) h2
  obtain ⟨e1, e2⟩ := h j (by omega)
  have e3 : evN d l j = nkF A B F j (wcF A B F j) := by
    unfold evN
    rw [e1, e2]
    omega
  rw [e3, ← tk_c hA hB hf hF h j (by omega)]
  exact ⟨h4, h5⟩
theorem tk_s {A B : Aut} (hA : WfA A) (hB : WfA B) {F : Nat} (hf : fdF A B F) (hF : F ≤ 10) {d l : Nat → Int} (h : tkP A B F d l) (j : Nat) (hj : j ≤ F) : suS d j + coK A B F (F - j) (cfF A B d l j) = coK A B F F (c0F A B) := by
  have hw := tk_w hA hB hf hF h
  have hg := tk_g hA hB hf hF h
  induction j with
  | zero =>
    rw [Nat.sub_zero, cf_0]
    show 0 + _ = _
    omega
  | succ j ih =>
    have h1 := (tk_n hA hB hf hF h (j := j) (by omega)).1.2
    obtain ⟨h2, -, -⟩ := co_step hA hB hf hw hg (j := j) (by omega)
    obtain ⟨-, -, h3⟩ := evN_d hw (j := j) (by omega)
    rw [h2, h3] at h1
    have h4 := ih (by omega)
    have h5 : suS d (j + 1) = suS d j + d j := rfl
    omega
theorem tk_min {A B : Aut} (hA : WfA A) (hB : WfA B) {F : Nat} (hf : fdF A B F) (hF : F ≤ 10) {d l : Nat → Int} (h : tkP A B F d l) {d' l' : Nat → Int} (hw' : WdF F d' l') (hg' : goF A B (cfF A B d' l' F)) : suS d F ≤ suS d' F := by
  have h1 := tk_s hA hB hf hF h F (Nat.le_refl F)
  have h2 := co_low hA hB hf hw' hg' F (Nat.le_refl F)
  have h3 : coK A B F 0 (cfF A B d l F) = 0 := if_pos (goB_t.mpr (tk_g hA hB hf hF h))
  rw [Nat.sub_self, h3] at h1
  rw [Nat.sub_self, cf_0] at h2
  have : suS d' 0 = 0 := rfl
  omega
theorem tk_lex {A B : Aut} (hA : WfA A) (hB : WfA B) {F : Nat} (hf : fdF A B F) (hF : F ≤ 10) {d l : Nat → Int} (h : tkP A B F d l) {d' l' : Nat → Int} (hw' : WdF F d' l') (hg' : goF A B (cfF A B d' l' F)) (hs : suS d' F = suS d F)
    {j : Nat} (hj : j < F) (he : ∀ i, i < j → d' i = d i ∧ l' i = l i) : evN d l j ≤ evN d' l' j := by
  have hc := cf_e (A := A) (B := B) j he
  have hsj : suS d' j = suS d j := by
    clear hj hc
    induction j with
    | zero => rfl
    | succ j ih =>
      simp only [suS, ih (fun i hi => he i (by omega)), (he j (by omega)).1]
  obtain ⟨h1, h2, h3⟩ := co_step hA hB hf hw' hg' hj
  have h4 := co_low hA hB hf hw' hg' (F - (j + 1)) (by omega)
  rw [show F - (F - (j + 1)) = j + 1 by omega] at h4
  have h5 := tk_s hA hB hf hF h j (by omega)
  have h6 := tk_s hA hB hf hF h F (Nat.le_refl F)
  have h7 : coK A B F 0 (cfF A B d l F) = 0 := if_pos (goB_t.mpr (tk_g hA hB hf hF h))
  rw [Nat.sub_self, h7] at h6
  obtain ⟨-, -, h8⟩ := evN_d hw' (j := j) (by omega)
  have h9 : suS d' (j + 1) = suS d' j + d' j := rfl
  apply Nat.le_of_not_lt
  intro hlt
  refine (tk_n hA hB hf hF h hj).2 _ hlt ?_
  rw [← hc]
  refine ⟨by rw [h1]; exact h2, ?_⟩
  rw [h1, h8]
  rw [hc] at h3 ⊢
  omega
