/-! the first word among those of up to two events; counts of words -/
def bdF (df : Int) (B : Aut) : Aut := if df = 0 then emA else B
theorem bdF_w {df : Int} {B : Aut} (h : WfA B) : WfA (bdF df B) := by
  unfold bdF
  split
  · exact emA_w
  · exact h
theorem af_em (d l : Nat → Int) (k : Nat) : afK emA d l k = 0 := by
  cases k with
  | zero => rfl
  | succ k => exact sbF_em _ _ _
theorem is_go {A B : Aut} (hA : WfA A) (hB : WfA B) {df : Int} {n : Int} {d l : Nat → Int} (hw : WdF n d l) {e : Nat} (he : (e : Int) ≤ n) : isP A B df d l e ↔ goF A (bdF df B) (cfF A (bdF df B) d l e) := by
  obtain ⟨-, h2, h3⟩ := cf_d hA (bdF_w (df := df) hB) hw he
  unfold isP goF
  rw [h2, h3]
  by_cases h0 : df = 0
  · subst h0
    have e1 : bdF 0 B = emA := if_pos rfl
    rw [e1, af_em]
    have e2 : pvAnd 0 emA.2.2.1 = 0 := by decide
    constructor
    · exact fun h => ⟨h.1, e2⟩
    · exact fun h => ⟨h.1, Or.inl rfl⟩
  · have e1 : bdF df B = B := if_neg h0
    rw [e1]
    constructor
    · exact fun h => ⟨h.1, h.2.resolve_left h0⟩
    · exact fun h => ⟨h.1, Or.inr h.2⟩
theorem is_e {A B : Aut} {df : Int} {d l d' l' : Nat → Int} (e : Nat) (h : ∀ j, j < e → d' j = d j ∧ l' j = l j) : isP A B df d' l' e ↔ isP A B df d l e := by
  unfold isP
  rw [af_e e h, af_e e h]
def wkD (ev k : Nat) : Nat → Int := fun j => if j = 0 then (((if ev = 1 then k else k / 15) % 5 : Nat) : Int) else ((k % 5 : Nat) : Int)
def wkL (ev k : Nat) : Nat → Int := fun j => if j = 0 then (((if ev = 1 then k else k / 15) / 5 : Nat) : Int) else ((k % 15 / 5 : Nat) : Int)
def wkC (ev : Nat) : Nat := if ev = 1 then 15 else 225
def wkS (ev k : Nat) : Int := if ev = 1 then wkD ev k 0 else wkD ev k 0 + wkD ev k 1
theorem wk_w {ev k : Nat} (he : ev = 1 ∨ ev = 2) (hk : k < wkC ev) : WdF (ev : Int) (wkD ev k) (wkL ev k) := by
  refine ⟨by omega, fun j hj => ?_⟩
  unfold wkD wkL
  unfold wkC at hk
  rcases he with rfl | rfl
  · obtain rfl : j = 0 := by omega
    simp only [if_true] at *
    omega
  · simp only [show ¬ (2 : Nat) = 1 by decide, if_false] at *
    split <;> omega
theorem wk_e {ev k : Nat} (he : ev = 1 ∨ ev = 2) (hk : k < wkC ev) : evN (wkD ev k) (wkL ev k) 0 = (if ev = 1 then k else k / 15) ∧ (ev = 2 → evN (wkD ev k) (wkL ev k) 1 = k % 15) := by
  unfold evN wkD wkL
  rcases he with rfl | rfl
  · simp only [if_true]
    omega
  · simp only [show ¬ (2 : Nat) = 1 by decide, show ¬ (1 : Nat) = 0 by decide, if_false, if_true]
    omega
/-- the number of a word of up to two events -/
def wkN (ev : Nat) (d l : Nat → Int) : Nat := if ev = 1 then evN d l 0 else 15 * evN d l 0 + evN d l 1
theorem wkN_r {ev : Nat} (he : ev = 1 ∨ ev = 2) {d l : Nat → Int} (hw : WdF (ev : Int) d l) : wkN ev d l < wkC ev ∧ ∀ j, j < ev → wkD ev (wkN ev d l) j = d j ∧ wkL ev (wkN ev d l) j = l j := by
  obtain ⟨h1, h2, h3⟩ := evN_d hw (j := 0) (by omega)
  unfold wkN wkC wkD wkL
  rcases he with rfl | rfl
  · simp only [if_true]
    refine ⟨h1, fun j hj => ?_⟩
    obtain rfl : j = 0 := by omega
    simp only [if_true]
    exact ⟨h3, h2⟩
  · obtain ⟨h4, h5, h6⟩ := evN_d hw (j := 1) (by omega)
    simp only [show ¬ (2 : Nat) = 1 by decide, if_false]
    refine ⟨by omega, fun j hj => ?_⟩
    rcases (show j = 0 ∨ j = 1 by omega) with rfl | rfl
    · simp only [if_true]
      omega
    · simp only [show ¬ (1 : Nat) = 0 by decide, if_false]
      omega
def bsP (A B : Aut) (df : Int) (ev k : Nat) : Prop := k < wkC ev ∧ isP A B df (wkD ev k) (wkL ev k) ev ∧ ∀ k', k' < wkC ev → isP A B df (wkD ev k') (wkL ev k') ev → wkS ev k < wkS ev k' ∨ (wkS ev k = wkS ev k' ∧ k ≤ k')
def noP (A B : Aut) (df : Int) (ev : Nat) : Prop := ∀ k, k < wkC ev → ¬ isP A B df (wkD ev k) (wkL ev k) ev
def z0P (A B : Aut) (df : Int) : Prop := isP A B df (fun _ => 0) (fun _ => 0) 0
/-- the law's own going through all of up to two events -/
def fsP (A B : Aut) (df own : Int) : Prop := (own = 0 ∧ z0P A B df) ∨ (¬ z0P A B df ∧ ∃ k : Nat, bsP A B df 1 k ∧ own = 1000 + k) ∨ (¬ z0P A B df ∧ noP A B df 1 ∧ ∃ k : Nat, bsP A B df 2 k ∧ own = 2000 + k) ∨ (¬ z0P A B df ∧ noP A B df 1 ∧ noP A B df 2 ∧ own = -1)
theorem wd_0 (d l : Nat → Int) : WdF ((0 : Nat) : Int) d l := ⟨by decide, fun k hk => absurd hk (by omega)⟩
theorem z0_iff {A B : Aut} (hA : WfA A) (hB : WfA B) {df : Int} (d l : Nat → Int) : z0P A B df ↔ goF A (bdF df B) (cfF A (bdF df B) d l 0) := by
  rw [← is_go hA hB (wd_0 d l) (Int.le_refl _)]
  exact is_e 0 (fun j hj => absurd hj (Nat.not_lt_zero _))
theorem no_iff {A B : Aut} (hA : WfA A) (hB : WfA B) {df : Int} {ev : Nat} (he : ev = 1 ∨ ev = 2) (h : noP A B df ev) {d l : Nat → Int} (hw : WdF (ev : Int) d l) : ¬ goF A (bdF df B) (cfF A (bdF df B) d l ev) := by
  obtain ⟨h1, h2⟩ := wkN_r he hw
  rw [← is_go hA hB hw (Int.le_refl _)]
  exact fun q => h _ h1 ((is_e ev h2).mpr q)
theorem fs_no {A B : Aut} (hA : WfA A) (hB : WfA B) {df own : Int} (hn : ¬ ∃ F, F ≤ 10 ∧ fdF A (bdF df B) F) (h : fsP A B df own) : own = -1 := by
  have hB' := bdF_w (df := df) hB
  rcases h with ⟨-, h⟩ | ⟨-, k, h, -⟩ | ⟨-, -, k, h, -⟩ | ⟨-, -, -, h⟩
  · exact absurd ((z0_iff hA hB (fun _ => 0) (fun _ => 0)).mp h) (fd_no hA hB' hn (by decide) (wd_0 _ _))
  · have hw := wk_w (Or.inl rfl) h.1
    exact absurd ((is_go hA hB hw (Int.le_refl _)).mp h.2.1) (fd_no hA hB' hn (by decide) hw)
  · have hw := wk_w (Or.inr rfl) h.1
    exact absurd ((is_go hA hB hw (Int.le_refl _)).mp h.2.1) (fd_no hA hB' hn (by decide) hw)
  · exact h
/-- the word that is taken, if of up to two events, is the law's own first -/
theorem bs_tk {A B : Aut} (hA : WfA A) (hB : WfA B) {df : Int} {ev k : Nat} (he : ev = 1 ∨ ev = 2) (hf : fdF A (bdF df B) ev) {d l : Nat → Int} (ht : tkP A (bdF df B) ev d l) (h : bsP A B df ev k) : wkN ev d l = k := by
  have hB' := bdF_w (df := df) hB
  have hw := tk_w hA hB' hf (by omega) ht
  have hg := tk_g hA hB' hf (by omega) ht
  obtain ⟨h1, h2⟩ := wkN_r he hw
  have hp : isP A B df (wkD ev (wkN ev d l)) (wkL ev (wkN ev d l)) ev := (is_e ev h2).mpr ((is_go hA hB hw (Int.le_refl _)).mpr hg)
  have hk := wk_w he h.1
  have hgk := (is_go hA hB hk (Int.le_refl _)).mp h.2.1
  have h3 := h.2.2 _ h1 hp
  have h4 := tk_min hA hB' hf (by omega) ht hk hgk
  have hs : ∀ d' : Nat → Int, suS d' ev = if ev = 1 then d' 0 else d' 0 + d' 1 := by
    intro d'
    rcases he with rfl | rfl
    · show 0 + d' 0 = d' 0
      omega
    · show 0 + d' 0 + d' 1 = d' 0 + d' 1
      omega
  have e1 : wkS ev (wkN ev d l) = suS d ev := by
    rw [hs]
    unfold wkS
    rcases he with rfl | rfl
    · rw [if_pos rfl, if_pos rfl, (h2 0 (by decide)).1]
    · rw [if_neg (by decide), if_neg (by decide), (h2 0 (by decide)).1, (h2 1 (by decide)).1]
  have e2 : wkS ev k = suS (wkD ev k) ev := by
    rw [hs]
    rfl
  have hle : k ≤ wkN ev d l := by omega
  have hsum : suS (wkD ev k) ev = suS d ev := by omega
  have h5 := tk_lex hA hB' hf (by omega) ht hk hgk hsum (j := 0) (by omega) (fun i hi => absurd hi (Nat.not_lt_zero _))
  obtain ⟨h6, h7⟩ := wk_e he h.1
  rw [h6] at h5
  obtain ⟨a1, a2, a3⟩ := evN_d hw (j := 0) (by omega)
  obtain ⟨b1, b2, b3⟩ := evN_d hk (j := 0) (by omega)
  unfold wkN at hle ⊢
  rcases he with rfl | rfl
  · simp only [if_true] at *
    omega
  · simp only [show ¬ (2 : Nat) = 1 by decide, if_false] at *
    obtain ⟨c1, c2, c3⟩ := evN_d hw (j := 1) (by omega)
    by_cases e0 : evN d l 0 = k / 15
    · have h8 := tk_lex hA hB' hf (by omega) ht hk hgk hsum (j := 1) (by omega) (fun i hi => by
        obtain rfl : i = 0 := by omega
        rw [← b3, ← b2, h6, ← a3, ← a2, e0]
        exact ⟨rfl, rfl⟩)
      have h9 := h7 trivial
      rw [h9] at h8
      omega
    · omega
theorem fs_F {A B : Aut} (hA : WfA A) (hB : WfA B) {df own : Int} {F : Nat} (hf : fdF A (bdF df B) F) (hF : F ≤ 10) {d l : Nat → Int} (ht : tkP A (bdF df B) F d l) (h : fsP A B df own) :
    (own < 0 → 3 ≤ F) ∧ (0 ≤ own → own / 1000 = F) ∧ (F = 1 → 5 * l 0 + d 0 = own % 1000) ∧ (F = 2 → 15 * (5 * l 0 + d 0) + 5 * l 1 + d 1 = own % 1000) ∧ (-1 ≤ own ∧ own ≤ 3000) := by
  have hB' := bdF_w (df := df) hB
  have hw := tk_w hA hB' hf hF ht
  have hg := tk_g hA hB' hf hF ht
  have hz : z0P A B df → F = 0 := fun hz => by
    apply Nat.eq_zero_of_not_pos
    intro hp
    exact fd_lt hA hB' hf hp (wd_0 _ _) ((z0_iff hA hB (fun _ => 0) (fun _ => 0)).mp hz)
  have hz' : ¬ z0P A B df → F ≠ 0 := fun hz e => hz ((z0_iff hA hB d l).mpr (by rw [← e]; exact hg))
  have hno : ∀ ev, (ev = 1 ∨ ev = 2) → noP A B df ev → F ≠ ev := fun ev he hn e => by
    subst e
    exact no_iff hA hB he hn hw hg
  have hbs : ∀ ev k, (ev = 1 ∨ ev = 2) → bsP A B df ev k → F ≤ ev := fun ev k he hb => by
    apply Nat.le_of_not_lt
    intro hlt
    have hwk := wk_w he hb.1
    exact fd_lt hA hB' hf hlt hwk ((is_go hA hB hwk (Int.le_refl _)).mp hb.2.1)
  rcases h with ⟨rfl, h⟩ | ⟨h0, k, h, rfl⟩ | ⟨h0, h1, k, h, rfl⟩ | ⟨h0, h1, h2, rfl⟩
  · have := hz h
    refine ⟨by omega, by omega, by omega, by omega, by omega⟩
  · have e1 := hz' h0
    have e2 := hbs 1 k (Or.inl rfl) h
    obtain rfl : F = 1 := by omega
    have e3 := bs_tk hA hB (Or.inl rfl) hf ht h
    have hk : k < 15 := h.1
    obtain ⟨a1, a2, a3⟩ := evN_d hw (j := 0) (by decide)
    unfold wkN at e3
    rw [if_pos rfl] at e3
    refine ⟨by omega, by omega, fun _ => by omega, by omega, by omega⟩
  · have e1 := hz' h0
    have e2 := hbs 2 k (Or.inr rfl) h
    have e4 := hno 1 (Or.inl rfl) h1
    obtain rfl : F = 2 := by omega
    have e3 := bs_tk hA hB (Or.inr rfl) hf ht h
    have hk : k < 225 := h.1
    obtain ⟨a1, a2, a3⟩ := evN_d hw (j := 0) (by decide)
    obtain ⟨b1, b2, b3⟩ := evN_d hw (j := 1) (by decide)
    unfold wkN at e3
    rw [if_neg (by decide)] at e3
    refine ⟨by omega, by omega, by omega, fun _ => by omega, by omega⟩
  · have e1 := hz' h0
    have e4 := hno 1 (Or.inl rfl) h1
    have e5 := hno 2 (Or.inr rfl) h2
    refine ⟨by omega, by omega, by omega, by omega, by omega⟩
/-! counts -/
theorem sdK_z {f : Int → Int → Int} (D : Nat) (h : ∀ a d : Int, (0 ≤ a ∧ a ≤ 2) → (0 ≤ d ∧ d < D) → f a d = 0) : sdK f D = 0 := by
  induction D with
  | zero => rfl
  | succ D ih =>
    simp only [sdK]
    rw [ih (fun a d ha hd => h a d ha (by omega)), h 0 _ (by omega) (by omega), h 1 _ (by omega) (by omega), h 2 _ (by omega) (by omega)]
    rfl
/-- where a word leads: valuation and set -/
def xwF (A : Aut) (d l : Nat → Int) (k : Nat) : Int := 16 * vaF d l k + afK A d l k
theorem xw_s {A : Aut} (hA : WfA A) {n : Int} {d l : Nat → Int} (hw : WdF n d l) {k : Nat} (hk : (k : Int) < n) : nxW A (xwF A d l k) (l k) (d k) = xwF A d l (k + 1) := by
  have h1 := vaF_r hw k (by omega)
  have h2 := afK_r hA d l k
  have e1 : xwF A d l k / 16 = vaF d l k := by unfold xwF; omega
  have e2 : xwF A d l k % 16 = afK A d l k := by unfold xwF; omega
  unfold nxW
  rw [e1, e2]
  rfl
theorem xw_e {A : Aut} {d l d' l' : Nat → Int} (k : Nat) (h : ∀ j, j < k → d' j = d j ∧ l' j = l j) : xwF A d' l' k = xwF A d l k := by
  unfold xwF
  rw [af_e k h, vaF_e k h]
/-- a word with one event more -/
def exD (d : Nat → Int) (k : Nat) (b : Int) : Nat → Int := fun j => if j = k then b else d j
theorem ex_w {k : Nat} {d l : Nat → Int} (hw : WdF (k : Int) d l) (hk : k < 10) {a b : Int} (ha : 0 ≤ a ∧ a ≤ 2) (hb : 0 ≤ b ∧ b ≤ 4) : WdF ((k + 1 : Nat) : Int) (exD d k b) (exD l k a) := by
  refine ⟨by omega, fun j hj => ?_⟩
  unfold exD
  by_cases e : j = k
  · rw [if_pos e, if_pos e]; exact ⟨hb, ha⟩
  · rw [if_neg e, if_neg e]; exact hw.2 j (by omega)
theorem xw_ex {A : Aut} (hA : WfA A) {k : Nat} {d l : Nat → Int} (hw : WdF (k : Int) d l) (hk : k < 10) {a b : Int} (ha : 0 ≤ a ∧ a ≤ 2) (hb : 0 ≤ b ∧ b ≤ 4) : nxW A (xwF A d l k) a b = xwF A (exD d k b) (exD l k a) (k + 1) := by
  have h1 := xw_s hA (ex_w hw hk ha hb) (k := k) (by omega)
  have e1 : exD d k b k = b := if_pos rfl
  have e2 : exD l k a k = a := if_pos rfl
  have e3 : xwF A (exD d k b) (exD l k a) k = xwF A d l k := xw_e k (fun j hj => ⟨if_neg (by omega), if_neg (by omega)⟩)
  rw [e1, e2, e3] at h1
  exact h1
theorem wd_zero {A : Aut} (hA : WfA A) (e : Nat) : ∀ (k : Nat) (d l : Nat → Int), k + e ≤ 10 → WdF (k : Int) d l → (∀ d' l' : Nat → Int, WdF ((k + e : Nat) : Int) d' l' → (∀ j, j < k → d' j = d j ∧ l' j = l j) → pvAnd (afK A d' l' (k + e)) A.2.2.1 = 0) → wdF A 5 e (xwF A d l k) = 0 := by
  induction e with
  | zero =>
    intro k d l hk hw h
    have h1 := vaF_r hw k (Int.le_refl _)
    have h2 := afK_r hA d l k
    have e2 : xwF A d l k % 16 = afK A d l k := by unfold xwF; omega
    simp only [wdF]
    have h3 : pvAnd (afK A d l k) A.2.2.1 = 0 := h d l hw (fun j _ => ⟨rfl, rfl⟩)
    rw [e2, if_pos h3]
  | succ e ih =>
    intro k d l hk hw h
    simp only [wdF]
    refine sdK_z 5 fun a b ha hb => ?_
    rw [xw_ex hA hw (by omega) ha (by omega)]
    refine ih (k + 1) _ _ (by omega) (ex_w hw (by omega) ha (by omega)) fun d' l' hw' he => ?_
    rw [show k + 1 + e = k + (e + 1) by omega] at hw' ⊢
    exact h d' l' hw' fun j hj => by
      have := he j (by omega)
      unfold exD at this
      rw [if_neg (by omega), if_neg (by omega)] at this
      exact this
/-- no word with so many events is accepted: the count is 0 -/
theorem wd_none {A : Aut} (hA : WfA A) {F e : Nat} (hf : fdF A emA F) (he : e < F) (hF : F ≤ 10) : wdF A 5 e (3440 + A.2.1) = 0 := by
  have h := wd_zero hA e 0 (fun _ => 0) (fun _ => 0) (by omega) (wd_0 _ _) fun d' l' hw' _ => by
    rw [Nat.zero_add] at hw' ⊢
    have h1 := fd_lt hA emA_w hf he hw'
    obtain ⟨-, h2, h3⟩ := cf_d hA emA_w hw' (Int.le_refl _)
    unfold goF at h1
    rw [h2, h3, af_em] at h1
    by_cases e0 : pvAnd (afK A d' l' e) A.2.2.1 = 0
    · exact e0
    · exact absurd ⟨e0, (by decide : pvAnd 0 emA.2.2.1 = 0)⟩ h1
  exact h
theorem suS_split (f : Nat → Int) (a b : Nat) : suS f (a + b) = suS f a + suS (fun j => f (a + j)) b := by
  induction b with
  | zero =>
    show suS f a = suS f a + 0
    omega
  | succ b ih =>
    show suS f (a + b) + f (a + b) = suS f a + (suS (fun j => f (a + j)) b + f (a + b))
    rw [ih]
    omega
theorem suS_mul (f : Nat → Int) (n m : Nat) : suS f (n * m) = suS (fun i => suS (fun j => f (n * i + j)) n) m := by
  induction m with
  | zero => rfl
  | succ m ih =>
    rw [Nat.mul_succ, suS_split, ih]
    rfl
theorem suS_c {f g : Nat → Int} (n : Nat) (h : ∀ j, j < n → f j = g j) : suS f n = suS g n := by
  induction n with
  | zero => rfl
  | succ n ih =>
    simp only [suS]
    rw [ih (fun j hj => h j (by omega)), h n (by omega)]
theorem sdK_15 (f : Int → Int → Int) {D : Nat} (hD : D ≤ 5) : sdK f D = suS (fun k => if k % 5 < D then f ((k / 5 : Nat) : Int) ((k % 5 : Nat) : Int) else 0) 15 := by
  rcases (show D = 0 ∨ D = 1 ∨ D = 2 ∨ D = 3 ∨ D = 4 ∨ D = 5 by omega) with rfl | rfl | rfl | rfl | rfl | rfl <;>
    simp [suS, sdK] <;> omega
/-- the k-th word of two events, the letter first -/
def cwD (k : Nat) : Nat → Int := fun j => if j = 0 then ((k / 15 % 5 : Nat) : Int) else ((k % 5 : Nat) : Int)
def cwL (k : Nat) : Nat → Int := fun j => if j = 0 then ((k / 75 : Nat) : Int) else ((k % 15 / 5 : Nat) : Int)
def cwB (A : Aut) (D k : Nat) : Int := if k / 15 % 5 < D ∧ k % 5 < D ∧ pvAnd (afK A (cwD k) (cwL k) 2) A.2.2.1 ≠ 0 then 1 else 0
theorem cw_w {k : Nat} (hk : k < 225) : WdF ((2 : Nat) : Int) (cwD k) (cwL k) := by
  refine ⟨by decide, fun j hj => ?_⟩
  unfold cwD cwL
  split <;> omega
theorem wd_two {A : Aut} (hA : WfA A) {D : Nat} (hD : D ≤ 5) : wdF A D 2 (3440 + A.2.1) = suS (cwB A D) 225 := by
  have e225 : (225 : Nat) = 15 * 15 := rfl
  rw [e225, suS_mul]
  simp only [wdF]
  rw [sdK_15 _ hD]
  refine suS_c 15 fun i hi => ?_
  have hz : xwF A (fun _ => 0) (fun _ => 0) 0 = 3440 + A.2.1 := rfl
  by_cases h1 : i % 5 < D
  · rw [if_pos h1, sdK_15 _ hD]
    refine suS_c 15 fun j hj => ?_
    unfold cwB
    have q1 : (15 * i + j) / 15 % 5 = i % 5 := by omega
    have q2 : (15 * i + j) % 5 = j % 5 := by omega
    have q3 : (15 * i + j) / 75 = i / 5 := by omega
    have q4 : (15 * i + j) % 15 / 5 = j / 5 := by omega
    rw [q1, q2]
    by_cases h2 : j % 5 < D
    · rw [if_pos h2]
      have hk : 15 * i + j < 225 := by omega
      have hw := cw_w hk
      have s1 := xw_s hA hw (k := 0) (by decide)
      have s2 := xw_s hA hw (k := 1) (by decide)
      have c1 : cwL (15 * i + j) 0 = ((i / 5 : Nat) : Int) := by unfold cwL; rw [if_pos rfl, q3]
      have c2 : cwD (15 * i + j) 0 = ((i % 5 : Nat) : Int) := by unfold cwD; rw [if_pos rfl, q1]
      have c3 : cwL (15 * i + j) 1 = ((j / 5 : Nat) : Int) := by unfold cwL; rw [if_neg (by decide), q4]
      have c4 : cwD (15 * i + j) 1 = ((j % 5 : Nat) : Int) := by unfold cwD; rw [if_neg (by decide), q2]
      have hz2 : xwF A (cwD (15 * i + j)) (cwL (15 * i + j)) 0 = 3440 + A.2.1 := rfl
      rw [hz2, c1, c2] at s1
      rw [c3, c4] at s2
      rw [s1, s2]
      have h3 := vaF_r hw 2 (by decide)
      have h4 := afK_r hA (cwD (15 * i + j)) (cwL (15 * i + j)) 2
      have e2 : xwF A (cwD (15 * i + j)) (cwL (15 * i + j)) (1 + 1) % 16 = afK A (cwD (15 * i + j)) (cwL (15 * i + j)) 2 := by
        show (16 * vaF _ _ 2 + afK A _ _ 2) % 16 = _
        omega
      rw [e2]
      by_cases h5 : pvAnd (afK A (cwD (15 * i + j)) (cwL (15 * i + j)) 2) A.2.2.1 = 0
      · rw [if_pos h5, if_neg (fun h => h.2.2 h5)]
      · rw [if_neg h5, if_pos ⟨h1, h2, h5⟩]
    · rw [if_neg h2, if_neg (fun h => h2 h.2.1)]
  · rw [if_neg h1]
    have : ∀ j, j < 15 → cwB A D (15 * i + j) = 0 := fun j hj => by
      unfold cwB
      rw [if_neg (fun h => h1 (by have := h.1; omega))]
    rw [suS_c 15 this, suS_0]
theorem wd_nil {A : Aut} (hA : WfA A) (D : Nat) : wdF A D 0 (3440 + A.2.1) = if pvAnd A.2.1 A.2.2.1 = 0 then 0 else 1 := by
  simp only [wdF]
  have h := hA.2.1
  rw [show (3440 + A.2.1) % 16 = A.2.1 by omega]
