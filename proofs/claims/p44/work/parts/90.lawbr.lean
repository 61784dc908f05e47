/-! the branches share all valuations and lead to unlike sets -/
theorem fcmp_s {a : UInt32} (ha : vf_n32 a) : FP.fcmp a a = some .eq := by
  have hn := de_32 (of_n32 ha)
  show FP.Core.order (FP.Core.decode FP.Core.b32 a.toNat) (FP.Core.decode FP.Core.b32 a.toNat) = some .eq
  cases hx : FP.Core.decode FP.Core.b32 a.toNat with
  | nan => exact absurd hx hn
  | inf s => cases s <;> rfl
  | fin s c q => simp [FP.Core.order, compare, compareOfLessAndEq]
def suS (f : Nat → Int) : Nat → Int
  | 0 => 0
  | b + 1 => suS f b + f b
theorem suS_add (f g : Nat → Int) (n : Nat) : suS (fun j => f j + g j) n = suS f n + suS g n := by
  induction n with
  | zero => rfl
  | succ n ih =>
    simp only [suS, ih]
    omega
theorem suS_0 (n : Nat) : suS (fun _ => 0) n = 0 := by
  induction n with
  | zero => rfl
  | succ n ih => simp only [suS, ih]; rfl
theorem suS_m {f : Nat → Int} (h : ∀ j, 0 ≤ f j) {a b : Nat} (hab : a ≤ b) : suS f a ≤ suS f b := by
  induction b with
  | zero => rw [show a = 0 by omega]; exact Int.le_refl _
  | succ b ih =>
    by_cases e : a = b + 1
    · rw [e]; exact Int.le_refl _
    · have h1 := ih (by omega)
      have h2 := h b
      simp only [suS]
      omega
theorem suS_one {L : List Int} (hn : L.Nodup) {x : Int} (hx : x ∈ L) (b : Nat) (hb : b ≤ L.length) : suS (fun j => if x = ndF L j then 1 else 0) b = if ixN L x < b then 1 else 0 := by
  obtain ⟨h1, h2⟩ := ixN_lt hx
  induction b with
  | zero => rfl
  | succ b ih =>
    simp only [suS, ih (by omega)]
    by_cases e : x = ndF L b
    · have : ixN L x = b := ndF_inj hn h1 (by omega) (by rw [h2, e])
      rw [if_pos e, this, if_neg (by omega), if_pos (by omega)]
      rfl
    · have : ixN L x ≠ b := fun q => e (by rw [← q, h2])
      rw [if_neg e]
      by_cases e2 : ixN L x < b
      · rw [if_pos e2, if_pos (by omega)]
        rfl
      · rw [if_neg e2, if_neg (by omega)]
        rfl
theorem suS_cv {A : Aut} {s a : Int} {L : List Int} (hn : L.Nodup) (k : Nat) (h : ∀ v, v < k → sbF A s a (v : Nat) ∈ L) : suS (fun j => cvK A s a (ndF L j) k) L.length = k := by
  induction k with
  | zero => exact suS_0 _
  | succ k ih =>
    simp only [cvK]
    rw [suS_add, ih (fun v hv => h v (by omega)), suS_one hn (h k (by omega)) _ (Nat.le_refl _), if_pos (ixN_lt (h k (by omega))).1]
    omega
/-- all branches of a set and a letter: 216 valuations -/
theorem br_all {A : Aut} (hw : WfA A) (s a : Int) : suS (fun j => cvK A s a (ndF (brF A s a) j) nVal) (brF A s a).length = 216 := by
  have h := suS_cv (A := A) (s := s) (a := a) (L := brF A s a) (brK_ok hw s a nVal).1 nVal (fun v hv => brK_m.mpr ⟨v, hv, rfl⟩)
  rw [h, nVal_eq]
  rfl
noncomputable def blS (A : Aut) (x : Int) : Nat → Int
  | 0 => 0
  | a + 1 => blS A x a + (brF A x (a : Nat)).length
theorem blS_3 (A : Aut) (i : Nat) : baK A i + blS A (ndF (dsF A) i) 3 = baK A (i + 1) := by
  have e : blS A (ndF (dsF A) i) 3 = 0 + (brF A (ndF (dsF A) i) 0).length + (brF A (ndF (dsF A) i) 1).length + (brF A (ndF (dsF A) i) 2).length := rfl
  have e2 : baK A (i + 1) = baK A i + (brF A (ndF (dsF A) i) 0).length + (brF A (ndF (dsF A) i) 1).length + (brF A (ndF (dsF A) i) 2).length := rfl
  rw [e, e2]
  omega
theorem blS_r {A : Aut} (hw : WfA A) (x : Int) (a : Nat) : 0 ≤ blS A x a ∧ blS A x a ≤ 16 * a := by
  induction a with
  | zero => exact ⟨Int.le_refl _, Int.le_refl _⟩
  | succ a ih =>
    have := brF_len hw x (a : Nat)
    simp only [blS]
    omega
theorem ins_li {f : Nat → Int} {b : Nat} (h : ∀ j, j < b → f j ≠ f b) : insF (liF f b) (f b) = liF f (b + 1) := by
  unfold insF
  rw [if_neg (fun hm => by obtain ⟨i, h1, h2⟩ := liF_m.mp hm; exact h i h1 h2), liF_s]
theorem seP_bit {x : Int} {L : List Int} (h : seP x L) {q : Int} (hq : 0 ≤ q ∧ q ≤ 15) : btF x q = decide (q ∈ L) := by
  unfold btF
  rw [h.2.1 q.toNat]
  have e : ((q.toNat : Nat) : Int) = q := by omega
  rw [e]
