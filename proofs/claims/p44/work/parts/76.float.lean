def fgF (f : FP.Core.Fmt) : FP.Core.Datum → Prop
  | .nan => False
  | .inf _ => True
  | .fin _ c q => c < 2 ^ f.p ∧ q ≤ f.qmax
theorem fg_round {f : FP.Core.Fmt} (hf : 0 < f.p) (hq : f.qmin ≤ f.qmax) {s : Bool} {n d : Nat} {e : Int} : fgF f (FP.Core.roundRatio f s n d e) := by
  have hp : 0 < 2 ^ f.p := Nat.two_pow_pos _
  have ht : f.tails < 2 ^ f.p := Nat.pow_lt_pow_right (by decide) (by omega)
  unfold FP.Core.roundRatio
  split
  · exact ⟨hp, hq⟩
  · unfold FP.Core.roundAt FP.Core.settle FP.Core.bound
    split
    · rename_i h
      split
      · rename_i h2; exact ⟨h, h2⟩
      · trivial
    · split
      · rename_i h2; exact ⟨ht, h2⟩
      · trivial
theorem en_64 {d : FP.Core.Datum} (h : fgF FP.Core.b64 d) : FP.Core.encode FP.Core.b64 d % 9223372036854775808 ≤ 9218868437227405312 := by
  have e1 : FP.Core.b64.tails = 4503599627370496 := by decide
  have e2 : FP.Core.b64.exps = 2048 := by decide
  have e3 : (2 : Nat) ^ FP.Core.b64.p = 9007199254740992 := by decide
  have e4 : FP.Core.b64.qmax = 971 := by decide
  have e5 : FP.Core.b64.qmin = -1074 := by decide
  cases d with
  | nan => exact h.elim
  | inf s => cases s <;> decide
  | fin s c q =>
    obtain ⟨h1, h2⟩ := h
    rw [e3] at h1
    rw [e4] at h2
    unfold FP.Core.encode FP.Core.assemble
    simp only [e1, e2, e5]
    cases s <;> (simp only [Bool.toNat_false, Bool.toNat_true]; split <;> omega)
theorem en_32 {d : FP.Core.Datum} (h : fgF FP.Core.b32 d) : FP.Core.encode FP.Core.b32 d % 2147483648 ≤ 2139095040 := by
  have e1 : FP.Core.b32.tails = 8388608 := by decide
  have e2 : FP.Core.b32.exps = 256 := by decide
  have e3 : (2 : Nat) ^ FP.Core.b32.p = 16777216 := by decide
  have e4 : FP.Core.b32.qmax = 104 := by decide
  have e5 : FP.Core.b32.qmin = -149 := by decide
  cases d with
  | nan => exact h.elim
  | inf s => cases s <;> decide
  | fin s c q =>
    obtain ⟨h1, h2⟩ := h
    rw [e3] at h1
    rw [e4] at h2
    unfold FP.Core.encode FP.Core.assemble
    simp only [e1, e2, e5]
    cases s <;> (simp only [Bool.toNat_false, Bool.toNat_true]; split <;> omega)
theorem de_64 {n : Nat} (h : n % 9223372036854775808 ≤ 9218868437227405312) : FP.Core.decode FP.Core.b64 n ≠ .nan := by
  have e1 : FP.Core.b64.tails = 4503599627370496 := by decide
  have e2 : FP.Core.b64.exps = 2048 := by decide
  unfold FP.Core.decode FP.Core.fieldE FP.Core.fieldT
  rw [e1, e2]
  split
  · rename_i h1
    rw [if_pos (by omega)]
    exact fun e => by cases e
  · split <;> exact fun e => by cases e
theorem de_32 {n : Nat} (h : n % 2147483648 ≤ 2139095040) : FP.Core.decode FP.Core.b32 n ≠ .nan := by
  have e1 : FP.Core.b32.tails = 8388608 := by decide
  have e2 : FP.Core.b32.exps = 256 := by decide
  unfold FP.Core.decode FP.Core.fieldE FP.Core.fieldT
  rw [e1, e2]
  split
  · rename_i h1
    rw [if_pos (by omega)]
    exact fun e => by cases e
  · split <;> exact fun e => by cases e
theorem n64_of {n : Nat} (h : n % 9223372036854775808 ≤ 9218868437227405312) : vf_n64 (UInt64.ofNat n) := by
  unfold vf_n64
  rw [UInt64.le_iff_toNat_le, UInt64.toNat_and]
  have e : (0x7fffffffffffffff : UInt64).toNat = 2 ^ 63 - 1 := by decide
  have e2 : (0x7ff0000000000000 : UInt64).toNat = 9218868437227405312 := by decide
  rw [e, e2, Nat.and_two_pow_sub_one_eq_mod, UInt64.toNat_ofNat']
  omega
theorem n32_of {n : Nat} (h : n % 2147483648 ≤ 2139095040) : vf_n32 (UInt32.ofNat n) := by
  unfold vf_n32
  rw [UInt32.le_iff_toNat_le, UInt32.toNat_and]
  have e : (0x7fffffff : UInt32).toNat = 2 ^ 31 - 1 := by decide
  have e2 : (0x7f800000 : UInt32).toNat = 2139095040 := by decide
  rw [e, e2, Nat.and_two_pow_sub_one_eq_mod, UInt32.toNat_ofNat']
  omega
theorem of_n32 {a : UInt32} (h : vf_n32 a) : a.toNat % 2147483648 ≤ 2139095040 := by
  unfold vf_n32 at h
  rw [UInt32.le_iff_toNat_le, UInt32.toNat_and] at h
  have e : (0x7fffffff : UInt32).toNat = 2 ^ 31 - 1 := by decide
  have e2 : (0x7f800000 : UInt32).toNat = 2139095040 := by decide
  rw [e, e2, Nat.and_two_pow_sub_one_eq_mod] at h
  exact h
theorem of_n64 {a : UInt64} (h : vf_n64 a) : a.toNat % 9223372036854775808 ≤ 9218868437227405312 := by
  unfold vf_n64 at h
  rw [UInt64.le_iff_toNat_le, UInt64.toNat_and] at h
  have e : (0x7fffffffffffffff : UInt64).toNat = 2 ^ 63 - 1 := by decide
  have e2 : (0x7ff0000000000000 : UInt64).toNat = 9218868437227405312 := by decide
  rw [e, e2, Nat.and_two_pow_sub_one_eq_mod] at h
  exact h
theorem quo_g {f : FP.Core.Fmt} (hf : 0 < f.p) (hq : f.qmin ≤ f.qmax) {x : FP.Core.Datum} {t : Bool} {d : Nat} {r : Int} (hx : x ≠ .nan) (hd : d ≠ 0) : fgF f (FP.Core.quotient f x (.fin t d r)) := by
  cases x with
  | nan => exact absurd rfl hx
  | inf s => exact True.intro
  | fin s c q =>
    unfold FP.Core.quotient
    simp only []
    rw [if_neg hd]
    exact fg_round hf hq
theorem l2d_n (a : Int64) : vf_n64 (FP.l2d a) := n64_of (en_64 (fg_round (by decide) (by decide)))
theorem i2f_n (a : Int32) : vf_n32 (FP.i2f a) := n32_of (en_32 (fg_round (by decide) (by decide)))
theorem ddiv_n {a b : UInt64} (ha : vf_n64 a) {t : Bool} {d : Nat} {r : Int} (hb : FP.Core.decode FP.Core.b64 b.toNat = .fin t d r) (hd : d ≠ 0) : vf_n64 (FP.ddiv a b) := by
  show vf_n64 (UInt64.ofNat (FP.Core.encode FP.Core.b64 (FP.Core.quotient FP.Core.b64 (FP.Core.decode FP.Core.b64 a.toNat) (FP.Core.decode FP.Core.b64 b.toNat))))
  rw [hb]
  exact n64_of (en_64 (quo_g (by decide) (by decide) (de_64 (of_n64 ha)) hd))
theorem fdiv_n {a b : UInt32} (ha : vf_n32 a) {t : Bool} {d : Nat} {r : Int} (hb : FP.Core.decode FP.Core.b32 b.toNat = .fin t d r) (hd : d ≠ 0) : vf_n32 (FP.fdiv a b) := by
  show vf_n32 (UInt32.ofNat (FP.Core.encode FP.Core.b32 (FP.Core.quotient FP.Core.b32 (FP.Core.decode FP.Core.b32 a.toNat) (FP.Core.decode FP.Core.b32 b.toNat))))
  rw [hb]
  exact n32_of (en_32 (quo_g (by decide) (by decide) (de_32 (of_n32 ha)) hd))
theorem f2d_n {a : UInt32} (ha : vf_n32 a) : vf_n64 (FP.f2d a) := by
  have hn := de_32 (of_n32 ha)
  have e : FP.f2d a = UInt64.ofNat (FP.Core.encode FP.Core.b64 (FP.Core.round FP.Core.b64 (FP.Core.decode FP.Core.b32 a.toNat))) := by
    unfold FP.f2d FP.Core.fIsNaN FP.Core.isNaN
    rw [if_neg (by simpa using hn)]
    rfl
  rw [e]
  refine n64_of (en_64 ?_)
  cases hx : FP.Core.decode FP.Core.b32 a.toNat with
  | nan => exact absurd hx hn
  | inf s => exact True.intro
  | fin s c q => exact fg_round (by decide) (by decide)
theorem dcmp_s {a : UInt64} (ha : vf_n64 a) : FP.dcmp a a = some .eq := by
  have hn := de_64 (of_n64 ha)
  show FP.Core.order (FP.Core.decode FP.Core.b64 a.toNat) (FP.Core.decode FP.Core.b64 a.toNat) = some .eq
  cases hx : FP.Core.decode FP.Core.b64 a.toNat with
  | nan => exact absurd hx hn
  | inf s => cases s <;> rfl
  | fin s c q => simp [FP.Core.order, compare, compareOfLessAndEq]

