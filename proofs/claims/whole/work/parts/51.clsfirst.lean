/-! the first accepting run -/
def hpK (A : Aut) (d l : Nat → Int) : Nat → Nat → Int
  | 0, _ => A.2.2.1
  | m + 1, i => saF A (hpK A d l m (i + 1)) (l i) (psF (vaF d l i) (d i))
def lbF (s : Int) : Int := if btF s 0 then 0 else if btF s 1 then 1 else if btF s 2 then 2 else 3
/-- the state behind k events of the first accepting run, and the transition that led there -/
def frK (A : Aut) (d l : Nat → Int) (n : Nat) : Nat → Int × Int
  | 0 => (lbF (pvAnd A.2.1 (hpK A d l n 0)), -1)
  | k + 1 => (A.2.2.2 (fmK A.2.2.2 (frK A d l n k).1 (hpK A d l (n - (k + 1)) (k + 1)) (l k) (psF (vaF d l k) (d k)) A.1.toNat 0).toNat 2, fmK A.2.2.2 (frK A d l n k).1 (hpK A d l (n - (k + 1)) (k + 1)) (l k) (psF (vaF d l k) (d k)) A.1.toNat 0)
theorem bt_orF : ∀ (x : Fin 16) (r : Fin 4) (q : Fin 4), btF (pvOr ((x : Nat) : Int) (pvShl 1 ((r : Nat) : Int))) ((q : Nat) : Int) = (btF ((x : Nat) : Int) ((q : Nat) : Int) || decide (((q : Nat) : Int) = ((r : Nat) : Int))) := by decide +kernel
theorem bt_or {x r q : Int} (hx : 0 ≤ x ∧ x ≤ 15) (hr : 0 ≤ r ∧ r ≤ 3) (hq : 0 ≤ q ∧ q ≤ 3) : btF (pvOr x (pvShl 1 r)) q = (btF x q || decide (q = r)) := by
  obtain ⟨a, rfl⟩ := fin_of (a := x) (n := 16) (by omega)
  obtain ⟨b, rfl⟩ := fin_of (a := r) (n := 4) (by omega)
  obtain ⟨c, rfl⟩ := fin_of (a := q) (n := 4) (by omega)
  exact bt_orF a b c
theorem bt_andF : ∀ (x : Fin 16) (y : Fin 16) (q : Fin 4), btF (pvAnd ((x : Nat) : Int) ((y : Nat) : Int)) ((q : Nat) : Int) = (btF ((x : Nat) : Int) ((q : Nat) : Int) && btF ((y : Nat) : Int) ((q : Nat) : Int)) := by decide +kernel
theorem bt_and {x y q : Int} (hx : 0 ≤ x ∧ x ≤ 15) (hy : 0 ≤ y ∧ y ≤ 15) (hq : 0 ≤ q ∧ q ≤ 3) : btF (pvAnd x y) q = (btF x q && btF y q) := by
  obtain ⟨a, rfl⟩ := fin_of (a := x) (n := 16) (by omega)
  obtain ⟨b, rfl⟩ := fin_of (a := y) (n := 16) (by omega)
  obtain ⟨c, rfl⟩ := fin_of (a := q) (n := 4) (by omega)
  exact bt_andF a b c
theorem and15F : ∀ (x : Fin 16) (y : Fin 16), 0 ≤ pvAnd ((x : Nat) : Int) ((y : Nat) : Int) ∧ pvAnd ((x : Nat) : Int) ((y : Nat) : Int) ≤ 15 := by decide +kernel
theorem and15 {x y : Int} (hx : 0 ≤ x ∧ x ≤ 15) (hy : 0 ≤ y ∧ y ≤ 15) : 0 ≤ pvAnd x y ∧ pvAnd x y ≤ 15 := by
  obtain ⟨a, rfl⟩ := fin_of (a := x) (n := 16) (by omega)
  obtain ⟨b, rfl⟩ := fin_of (a := y) (n := 16) (by omega)
  exact and15F a b
theorem lowF : ∀ x : Fin 16, ¬ ((x : Nat) : Int) = 0 → (0 ≤ pvAnd ((x : Nat) : Int) (-((x : Nat) : Int)) - 1 ∧ pvAnd ((x : Nat) : Int) (-((x : Nat) : Int)) - 1 ≤ 65535) ∧ pcF (pvAnd ((x : Nat) : Int) (-((x : Nat) : Int)) - 1) = lbF ((x : Nat) : Int) ∧ btF ((x : Nat) : Int) (lbF ((x : Nat) : Int)) = true := by decide +kernel
theorem low {x : Int} (hx : 0 ≤ x ∧ x ≤ 15) (h0 : ¬ x = 0) : (0 ≤ pvAnd x (-x) - 1 ∧ pvAnd x (-x) - 1 ≤ 65535) ∧ pcF (pvAnd x (-x) - 1) = lbF x ∧ btF x (lbF x) = true := by
  obtain ⟨a, rfl⟩ := fin_of (a := x) (n := 16) (by omega)
  exact lowF a h0
theorem lbF_r (x : Int) : 0 ≤ lbF x ∧ lbF x ≤ 3 := by
  unfold lbF
  (repeat' split) <;> omega
theorem zero_btF : ∀ x : Fin 16, ((x : Nat) : Int) = 0 ↔ ∀ q : Fin 4, btF ((x : Nat) : Int) ((q : Nat) : Int) = false := by decide +kernel
theorem zero_bt {x : Int} (hx : 0 ≤ x ∧ x ≤ 15) : x = 0 ↔ ∀ q : Int, 0 ≤ q ∧ q ≤ 3 → btF x q = false := by
  obtain ⟨a, rfl⟩ := fin_of (a := x) (n := 16) (by omega)
  rw [zero_btF a]
  constructor
  · intro h q hq
    obtain ⟨c, rfl⟩ := fin_of (a := q) (n := 4) (by omega)
    exact h c
  · intro h c
    exact h _ (by omega)
theorem sa_bt {T : Nat → Nat → Int} {n : Nat} (hT : ∀ t, t < n → 0 ≤ T t 0 ∧ T t 0 ≤ 3) (set a v : Int) {q : Int} (hq : 0 ≤ q ∧ q ≤ 3) (k : Nat) (hk : k ≤ n) : btF (saK T set a v k) q = true ↔ ∃ t, t < k ∧ T t 0 = q ∧ btF set (T t 2) = true ∧ T t 1 = a ∧ blF (T t) v < 0 := by
  induction k with
  | zero =>
    simp only [saK]
    constructor
    · intro h; exact absurd h (by unfold btF; simp)
    · rintro ⟨t, ht, _⟩; omega
  | succ k ih =>
    have hr := saK_r hT set a v k (by omega)
    simp only [saK]
    by_cases e : btF set (T k 2) = true ∧ T k 1 = a ∧ blF (T k) v < 0
    · rw [if_pos e, bt_or hr (hT k (by omega)) hq, Bool.or_eq_true, ih (by omega), decide_eq_true_iff]
      constructor
      · rintro (⟨t, ht, h⟩ | h)
        · exact ⟨t, by omega, h⟩
        · exact ⟨k, by omega, h.symm, e⟩
      · rintro ⟨t, ht, h⟩
        by_cases et : t = k
        · subst et; exact Or.inr h.1.symm
        · exact Or.inl ⟨t, by omega, h⟩
    · rw [if_neg e, ih (by omega)]
      constructor
      · rintro ⟨t, ht, h⟩; exact ⟨t, by omega, h⟩
      · rintro ⟨t, ht, h⟩
        by_cases et : t = k
        · subst et; exact absurd h.2 e
        · exact ⟨t, by omega, h⟩
theorem fm_f {T : Nat → Nat → Int} {q set a v : Int} (m k : Nat) (h : ∃ t, k ≤ t ∧ t < k + m ∧ T t 0 = q ∧ btF set (T t 2) = true ∧ T t 1 = a ∧ blF (T t) v < 0) :
    ∃ t : Nat, fmK T q set a v m k = t ∧ k ≤ t ∧ t < k + m ∧ (T t 0 = q ∧ btF set (T t 2) = true ∧ T t 1 = a ∧ blF (T t) v < 0) ∧ ∀ u, k ≤ u → u < t → ¬ (T u 0 = q ∧ btF set (T u 2) = true ∧ T u 1 = a ∧ blF (T u) v < 0) := by
  induction m generalizing k with
  | zero => obtain ⟨t, h1, h2, _⟩ := h; omega
  | succ m ih =>
    simp only [fmK]
    by_cases e : T k 0 = q ∧ btF set (T k 2) = true ∧ T k 1 = a ∧ blF (T k) v < 0
    · rw [if_pos e]
      exact ⟨k, rfl, Nat.le_refl _, by omega, e, fun u h1 h2 => by omega⟩
    · rw [if_neg e]
      obtain ⟨t, h1, h2, h3⟩ := h
      obtain ⟨t', e1, e2, e3, e4, e5⟩ := ih (k + 1) ⟨t, by
        by_cases et : t = k
        · subst et; exact absurd h3 e
        · omega, by omega, h3⟩
      refine ⟨t', e1, by omega, by omega, e4, fun u h1 h2 => ?_⟩
      by_cases eu : u = k
      · subst eu; exact e
      · exact e5 u (by omega) h2
theorem hpK_r {A : Aut} (h : WfA A) (d l : Nat → Int) (m i : Nat) : 0 ≤ hpK A d l m i ∧ hpK A d l m i ≤ 15 := by
  cases m with
  | zero => exact h.2.2.1
  | succ m => exact saF_r h _ _ _
theorem frK_ok {A : Aut} (h : WfA A) (d l : Nat → Int) (n : Nat) (h0 : ¬ pvAnd A.2.1 (hpK A d l n 0) = 0) (k : Nat) (hk : k ≤ n) : (0 ≤ (frK A d l n k).1 ∧ (frK A d l n k).1 ≤ 3) ∧ btF (hpK A d l (n - k) k) (frK A d l n k).1 = true := by
  have hr := hpK_r h d l
  induction k with
  | zero =>
    have h1 := and15 h.2.1 (hr n 0)
    have h2 := (low h1 h0).2.2
    have h3 := lbF_r (pvAnd A.2.1 (hpK A d l n 0))
    rw [bt_and h.2.1 (hr n 0) h3, Bool.and_eq_true] at h2
    exact ⟨h3, h2.2⟩
  | succ k ih =>
    obtain ⟨i1, i2⟩ := ih (by omega)
    rw [show n - k = n - (k + 1) + 1 by omega] at i2
    have i3 := (sa_bt (n := A.1.toNat) (fun t ht => (h.2.2.2 t (by omega)).1) _ _ _ i1 A.1.toNat (Nat.le_refl _)).mp i2
    obtain ⟨t, ht, h3⟩ := i3
    obtain ⟨t', e1, -, e3, e4, -⟩ := fm_f A.1.toNat 0 ⟨t, Nat.zero_le _, by omega, h3⟩
    simp only [frK]
    rw [e1, Int.toNat_natCast]
    exact ⟨(h.2.2.2 t' (by omega)).2.2.1, e4.2.1⟩
theorem frK_t {A : Aut} (h : WfA A) (d l : Nat → Int) (n : Nat) (h0 : ¬ pvAnd A.2.1 (hpK A d l n 0) = 0) (k : Nat) (hk : k < n) : 0 ≤ (frK A d l n (k + 1)).2 ∧ (frK A d l n (k + 1)).2 < A.1 := by
  obtain ⟨i1, i2⟩ := frK_ok h d l n h0 k (by omega)
  rw [show n - k = n - (k + 1) + 1 by omega] at i2
  have i3 := (sa_bt (n := A.1.toNat) (fun t ht => (h.2.2.2 t (by omega)).1) _ _ _ i1 A.1.toNat (Nat.le_refl _)).mp i2
  obtain ⟨t, ht, h3⟩ := i3
  obtain ⟨t', e1, -, e3, e4, -⟩ := fm_f A.1.toNat 0 ⟨t, Nat.zero_le _, by omega, h3⟩
  simp only [frK]
  rw [e1]
  omega
def C_X4_hopefulAt : pvC
  | [.inr (.inr (.inl id)), .inl i], z, Q => id = 24 ∧ (0 ≤ i ∧ i ≤ 10) ∧ Q (.inl (some (vI (z.1 27 i.toNat)))) z
  | _, _, _ => False
def bX4_hopefulAt : Nat → List (Instr × Nat)
  | 0 => [(.iload_n 1, 1), (.aload_n 0, 1), (.getfield 18, 3), (.arraylength, 1), (.invokestatic 60, 3), (.ifCond .eq 12, 3), (.aload_n 0, 1), (.getfield 18, 3), (.iload_n 1, 1), (.iaload, 1), (.goto 4, 3)]
  | 21 => [(.iconst 0, 1)]
  | 22 => [(.ireturn, 1)]
  | _ => []
def uX4_hopefulAt : Nat → Option (List Bool)
  | _ => none
def aX4_hopefulAt : pvCa
  | 60 => some (2, true, 0, 0, C_X9_isIndex)
  | _ => none
theorem bX4_hopefulAt_0 : bX4_hopefulAt 0 = [(.iload_n 1, 1), (.aload_n 0, 1), (.getfield 18, 3), (.arraylength, 1), (.invokestatic 60, 3), (.ifCond .eq 12, 3), (.aload_n 0, 1), (.getfield 18, 3), (.iload_n 1, 1), (.iaload, 1), (.goto 4, 3)] := rfl
theorem uX4_hopefulAt_0 : uX4_hopefulAt 0 = none := rfl
theorem bX4_hopefulAt_21 : bX4_hopefulAt 21 = [(.iconst 0, 1)] := rfl
theorem uX4_hopefulAt_21 : uX4_hopefulAt 21 = none := rfl
theorem bX4_hopefulAt_22 : bX4_hopefulAt 22 = [(.ireturn, 1)] := rfl
theorem uX4_hopefulAt_22 : uX4_hopefulAt 22 = none := rfl
theorem aX4_hopefulAt_60 : aX4_hopefulAt 60 = some (2, true, 0, 0, C_X9_isIndex) := rfl
def mX4_hopefulAt : Room := { frames := 1, cells := 1, slots := 6, locals := 21 }
set_option maxRecDepth 100000 in
set_option maxHeartbeats 4000000 in
theorem okX4_hopefulAt : pvOkM fX4 aX4_hopefulAt kX4 eX4 (some .int) bX4_hopefulAt uX4_hopefulAt 2 C_X4_hopefulAt := by
  intro Q SW hc as z h hS hz
  unfold C_X4_hopefulAt at h
  split at h
  · rename_i id i
    obtain ⟨hid, h⟩ := h
    refine ⟨Nat.le_of_ble_eq_true rfl, hc 20 _ _ _ fun _ _ => ?_⟩
    clear hc hS
    subst hid
    (simp only [pvSt1]
     simp only [C_X9_isIndex, pvE_iload_n1, pvLI_s, pvLd, pvE_aload_n0, pvLA_s, pvE_getfield, pvGf_0, pvGf_1, pvGf_2, fX4_18, pvSh_0, pvSh_1, pvSh_2, pvSh_3, pvSh_4, pvSh_5, pvSh_6, pvSh_7, pvSh_8, pvSh_9, pvSh_10, pvSh_11, pvSh_12, pvSh_13, pvSh_14, pvSh_15, pvSh_16, pvSh_17, pvSh_18, pvSh_19, pvSh_20, pvSh_21, pvSh_22, pvSh_23, pvSh_24, pvSh_25, pvSh_26, pvSh_27, pvSh_28, pvSh_29, pvSh_30, pvSh_31, pvSh_32, pvSh_33, pvSh_34, pvSh_35, pvSh_36, pvSh_37, pvSh_38, pvSh_39, pvSh_40, pvSh_41, pvSh_42, pvSh_43, pvSh_44, pvSh_45, pvSh_46, pvSh_47, pvSh_48, pvSh_49, pvSh_50, pvSh_51, pvSh_52, pvSh_53, pvSh_54, pvSh_55, pvSh_56, pvSh_57, pvSh_58, pvSh_59, pvRf_0_0, pvRf_0_1, pvRf_0_2, pvRf_0_3, pvRf_0_4, pvRf_0_5, pvRf_0_6, pvRf_0_7, pvRf_0_8, pvRf_0_9, pvRf_0_10, pvRf_1_0, pvRf_3_0, pvRf_5_0, pvRf_5_1, pvRf_5_2, pvRf_9_0, pvRf_9_1, pvRf_9_2, pvRf_13_0, pvRf_13_1, pvRf_13_2, pvRf_17_0, pvRf_17_2, pvRf_20_0, pvRf_20_1, pvRf_20_2, pvRf_24_0, pvRf_24_1, pvRf_24_2, pvRf_28_0, pvRf_28_1, pvRf_28_2, pvRf_28_3, pvRf_33_0, pvRf_33_1, pvRf_36_0, pvRf_36_1, pvRf_39_0, pvRf_39_1, pvRf_39_2, pvRf_39_5, pvRf_39_6, pvRf_39_9, pvRf_39_13, pvRf_39_15, pvRf_39_16, pvRf_39_17, pvRf_39_19, pvRf_39_20, pvRf_39_22, pvRf_39_23, pvRf_39_24, pvRf_39_25, pvRf_39_29, pvRf_39_30, pvE_arraylength, pvAn, pvE_invokestatic (h0 := eX4_60), pvC1_s, pvC2_s, pvAf_v, pvAf_x, pvPop, pvCs, pvCat, pvPush, aX4_hopefulAt_60, pvE_if_eq, pvE_iaload, pvAI, pvE_goto, pvE_iconst, pvE_ireturn, bX4_hopefulAt_0, uX4_hopefulAt_0, bX4_hopefulAt_21, uX4_hopefulAt_21, bX4_hopefulAt_22, uX4_hopefulAt_22, pvRecv_r, pvUp_nl, pvUp_same, pvUp_ap, pvSt_ap, pvX_c, pvX_ms, pvX_mn, pvE_nil, pvEn_i, pvEn_r, pvEn_l, pvEn_0, pvEn_s, pvRt, pvRv, pvTh, pvKc, pvGo, pvTgt, Int.toNat_natCast, false_and, and_false, true_and, and_true, if_true, if_false, reduceIte, reduceCtorEq, forall_const, false_or, or_false, true_or, or_true, ne_eq, not_true_eq_false, not_false_eq_true, implies_true, false_implies, Nat.reduceAdd, Nat.reduceSub, Nat.reduceMul, Nat.reduceEqDiff, Nat.reduceLT, Nat.reduceLeDiff, Int.reduceAdd, Int.reduceSub, Int.reduceMul, Int.reduceNeg, Int.reduceToNat, Int.reduceLE, Int.reduceLT, Int.reduceEq, Int.reduceNe, and_self]
     grind)
  · exact h.elim
def C_X4_findHopeful : pvC
  | [.inr (.inr (.inl id)), .inr (.inr (.inl b)), .inr (.inr (.inl w))], z, Q => id = 24 ∧ ((b = 1 ∨ b = 3) ∧ w = 20 ∧ WfC (z.1 (b + 1)) ∧ WcF z.1) ∧
      ∀ z' : pvM, frF [27] [] z z' → (∀ i m : Nat, (i : Int) + m = z.1 20 4 → z'.1 27 i = hpK (autC (z.1 (b + 1))) (z.1 21) (z.1 22) m i) → Q (.inl none) z'
  | _, _, _ => False
def bX4_findHopeful : Nat → List (Instr × Nat)
  | 0 => [(.aload_n 1, 1), (.invokevirtual 79, 3), (.istore_n 3, 1), (.aload_n 2, 1), (.getfield 32, 3), (.istore 4, 2)]
  | 11 => [(.iload 4, 2), (.ifCond .lt 57, 3), (.iload 4, 2), (.aload_n 2, 1), (.getfield 32, 3), (.if_icmp .ge 21, 3), (.aload_n 1, 1), (.iload_n 3, 1), (.aload_n 2, 1), (.iload 4, 2), (.invokevirtual 38, 3), (.aload_n 2, 1), (.iload 4, 2), (.invokevirtual 42, 3), (.invokevirtual 82, 3), (.istore_n 3, 1)]
  | 43 => [(.iload 4, 2), (.aload_n 0, 1), (.getfield 18, 3), (.arraylength, 1), (.invokestatic 60, 3), (.ifCond .eq 11, 3), (.aload_n 0, 1), (.getfield 18, 3), (.iload 4, 2), (.iload_n 3, 1), (.iastore, 1)]
  | 64 => [(.iinc 4 (-1), 3), (.goto (-56), 3)]
  | 70 => [(.return_, 1)]
  | _ => []
def uX4_findHopeful : Nat → Option (List Bool)
  | 11 => some [true, true, true, true, true]
  | _ => none
def aX4_findHopeful : pvCa
  | 38 => some (2, false, 6, 0, C_X6_letterAt)
  | 42 => some (2, false, 6, 0, C_X6_valuationAt)
  | 60 => some (2, true, 0, 0, C_X9_isIndex)
  | 79 => some (1, false, 0, 0, C_X0_finalStates)
  | 82 => some (4, false, 0, 0, C_X0_statesAhead)
  | _ => none
theorem bX4_findHopeful_0 : bX4_findHopeful 0 = [(.aload_n 1, 1), (.invokevirtual 79, 3), (.istore_n 3, 1), (.aload_n 2, 1), (.getfield 32, 3), (.istore 4, 2)] := rfl
theorem uX4_findHopeful_0 : uX4_findHopeful 0 = none := rfl
theorem bX4_findHopeful_11 : bX4_findHopeful 11 = [(.iload 4, 2), (.ifCond .lt 57, 3), (.iload 4, 2), (.aload_n 2, 1), (.getfield 32, 3), (.if_icmp .ge 21, 3), (.aload_n 1, 1), (.iload_n 3, 1), (.aload_n 2, 1), (.iload 4, 2), (.invokevirtual 38, 3), (.aload_n 2, 1), (.iload 4, 2), (.invokevirtual 42, 3), (.invokevirtual 82, 3), (.istore_n 3, 1)] := rfl
theorem uX4_findHopeful_11 : uX4_findHopeful 11 = some [true, true, true, true, true] := rfl
theorem bX4_findHopeful_43 : bX4_findHopeful 43 = [(.iload 4, 2), (.aload_n 0, 1), (.getfield 18, 3), (.arraylength, 1), (.invokestatic 60, 3), (.ifCond .eq 11, 3), (.aload_n 0, 1), (.getfield 18, 3), (.iload 4, 2), (.iload_n 3, 1), (.iastore, 1)] := rfl
theorem uX4_findHopeful_43 : uX4_findHopeful 43 = none := rfl
theorem bX4_findHopeful_64 : bX4_findHopeful 64 = [(.iinc 4 (-1), 3), (.goto (-56), 3)] := rfl
theorem uX4_findHopeful_64 : uX4_findHopeful 64 = none := rfl
theorem bX4_findHopeful_70 : bX4_findHopeful 70 = [(.return_, 1)] := rfl
theorem uX4_findHopeful_70 : uX4_findHopeful 70 = none := rfl
theorem aX4_findHopeful_38 : aX4_findHopeful 38 = some (2, false, 6, 0, C_X6_letterAt) := rfl
theorem aX4_findHopeful_42 : aX4_findHopeful 42 = some (2, false, 6, 0, C_X6_valuationAt) := rfl
theorem aX4_findHopeful_60 : aX4_findHopeful 60 = some (2, true, 0, 0, C_X9_isIndex) := rfl
theorem aX4_findHopeful_79 : aX4_findHopeful 79 = some (1, false, 0, 0, C_X0_finalStates) := rfl
theorem aX4_findHopeful_82 : aX4_findHopeful 82 = some (4, false, 0, 0, C_X0_statesAhead) := rfl
def mX4_findHopeful : Room := { frames := 5, cells := 1, slots := 6, locals := 113 }
set_option maxRecDepth 100000 in
set_option maxHeartbeats 4000000 in
theorem okX4_findHopeful : pvOkM fX4 aX4_findHopeful kX4 eX4 none bX4_findHopeful uX4_findHopeful 5 C_X4_findHopeful := by
  intro Q SW hc as z h hS hz
  unfold C_X4_findHopeful at h
  split at h
  · rename_i id b w
    obtain ⟨rfl, ⟨hb, rfl, hw, hd⟩, h2⟩ := h
    refine ⟨Nat.le_of_ble_eq_true rfl, ?_⟩
    have hsh : pvSh b = Sum.inl 0 := by rcases hb with rfl | rfl <;> rfl
    have b27 : b + 1 ∉ [27] := by rcases hb with rfl | rfl <;> decide
    have hd1 := hd.1.1
    obtain ⟨n, en⟩ : ∃ n : Nat, z.1 20 4 = n := ⟨(z.1 20 4).toNat, by omega⟩
    rw [en] at h2 hd1
    have loop : ∀ (i m : Nat) (z' : pvM), (i : Int) + m = n + 1 → frF [27] [] z z' → (∀ i' m' : Nat, (i' : Int) + m' = n → i ≤ i' → z'.1 27 i' = hpK (autC (z.1 (b + 1))) (z.1 21) (z.1 22) m' i') →
        SW 11 [some (vR 24), some (vR b), some (vR 20), some (vI (hpK (autC (z.1 (b + 1))) (z.1 21) (z.1 22) (m - 1) i)), some (vI ((i : Int) - 1))] z' := by
      intro i
      induction i with
      | zero =>
        intro m z' hk f1 o1
        have q9 := h2 z' f1 (fun i' m' h => o1 i' m' h (Nat.zero_le _))
        refine hc 20 _ _ _ fun _ _ => ?_
        simp only [pvSt1]
        simp only [C_X6_letterAt, C_X6_valuationAt, C_X0_statesAhead, C_X9_isIndex, pvE_aload_n1, pvLA_s, pvLd, pvE_invokevirtual, pvC1_s, pvC2_s, pvAf_v, pvAf_x, pvPop, pvCs, pvCat, pvPush, aX4_findHopeful_79, pvSh_0, pvSh_1, pvSh_2, pvSh_3, pvSh_4, pvSh_5, pvSh_6, pvSh_7, pvSh_8, pvSh_9, pvSh_10, pvSh_11, pvSh_12, pvSh_13, pvSh_14, pvSh_15, pvSh_16, pvSh_17, pvSh_18, pvSh_19, pvSh_20, pvSh_21, pvSh_22, pvSh_23, pvSh_24, pvSh_25, pvSh_26, pvSh_27, pvSh_28, pvSh_29, pvSh_30, pvSh_31, pvSh_32, pvSh_33, pvSh_34, pvSh_35, pvSh_36, pvSh_37, pvSh_38, pvSh_39, pvSh_40, pvSh_41, pvSh_42, pvSh_43, pvSh_44, pvSh_45, pvSh_46, pvSh_47, pvSh_48, pvSh_49, pvSh_50, pvSh_51, pvSh_52, pvSh_53, pvSh_54, pvSh_55, pvSh_56, pvSh_57, pvSh_58, pvSh_59, pvE_istore_n3, pvS1, List.length_cons, List.length_nil, pvClr_i, pvClr_r, pvClr_l, pvClr_d, pvClr_f, pvClr_n, pvE_aload_n2, pvE_getfield, pvGf_0, pvGf_1, pvGf_2, fX4_32, pvRf_0_0, pvRf_0_1, pvRf_0_2, pvRf_0_3, pvRf_0_4, pvRf_0_5, pvRf_0_6, pvRf_0_7, pvRf_0_8, pvRf_0_9, pvRf_0_10, pvRf_1_0, pvRf_3_0, pvRf_5_0, pvRf_5_1, pvRf_5_2, pvRf_9_0, pvRf_9_1, pvRf_9_2, pvRf_13_0, pvRf_13_1, pvRf_13_2, pvRf_17_0, pvRf_17_2, pvRf_20_0, pvRf_20_1, pvRf_20_2, pvRf_24_0, pvRf_24_1, pvRf_24_2, pvRf_28_0, pvRf_28_1, pvRf_28_2, pvRf_28_3, pvRf_33_0, pvRf_33_1, pvRf_36_0, pvRf_36_1, pvRf_39_0, pvRf_39_1, pvRf_39_2, pvRf_39_5, pvRf_39_6, pvRf_39_9, pvRf_39_13, pvRf_39_15, pvRf_39_16, pvRf_39_17, pvRf_39_19, pvRf_39_20, pvRf_39_22, pvRf_39_23, pvRf_39_24, pvRf_39_25, pvRf_39_29, pvRf_39_30, pvE_istore, pvE_iload, pvLI_s, pvE_if_lt, pvE_icmp_ge, pvE_iload_n3, aX4_findHopeful_38, aX4_findHopeful_42, aX4_findHopeful_82, pvE_aload_n0, fX4_18, pvE_arraylength, pvAn, pvE_invokestatic (h0 := eX4_60), aX4_findHopeful_60, pvE_if_eq, pvE_iastore, pvAI, pvE_iinc, pvIc_s, pvE_goto, pvE_return, bX4_findHopeful_0, uX4_findHopeful_0, bX4_findHopeful_11, uX4_findHopeful_11, bX4_findHopeful_43, uX4_findHopeful_43, bX4_findHopeful_64, uX4_findHopeful_64, bX4_findHopeful_70, uX4_findHopeful_70, pvMk_t, pvMk_f, pvMk_n, pvRecv_r, pvUp_nl, pvUp_same, pvUp_ap, pvSt_ap, pvX_c, pvX_ms, pvX_mn, pvE_nil, pvEn_i, pvEn_r, pvEn_l, pvEn_0, pvEn_s, pvRt, pvRv, pvTh, pvKc, pvGo, pvTgt, Int.toNat_natCast, false_and, and_false, true_and, and_true, if_true, if_false, reduceIte, reduceCtorEq, forall_const, false_or, or_false, true_or, or_true, ne_eq, not_true_eq_false, not_false_eq_true, implies_true, false_implies, Nat.reduceAdd, Nat.reduceSub, Nat.reduceMul, Nat.reduceEqDiff, Nat.reduceLT, Nat.reduceLeDiff, Int.reduceAdd, Int.reduceSub, Int.reduceMul, Int.reduceNeg, Int.reduceToNat, Int.reduceLE, Int.reduceLT, Int.reduceEq, Int.reduceNe, and_self]
        (repeat' (first | with_reducible apply And.intro | intro _))
        all_goals first
          | omega
          | exact q9
      | succ i ih =>
        intro m z' hk f1 o1
        have g20 := f1.1 20 (by decide)
        have g21 := f1.1 21 (by decide)
        have g22 := f1.1 22 (by decide)
        have g23 := f1.1 23 (by decide)
        have gb := f1.1 (b + 1) b27
        have ei : ((i + 1 : Nat) : Int) - 1 = i := by omega
        have hr := hpK_r hw.1 (z.1 21) (z.1 22) (m - 1) (i + 1)
        rw [ei]
        have step : ∀ x : Int, x = hpK (autC (z.1 (b + 1))) (z.1 21) (z.1 22) m i → SW 11 [some (vR 24), some (vR b), some (vR 20), some (vI x), some (vI ((i : Int) - 1))] (pvUp z'.1 27 i x, z'.2) := by
          intro x hx
          have q9 := ih (m + 1) (pvUp z'.1 27 i x, z'.2) (by omega) (by (repeat' first | assumption | exact frF_0 | (refine frF_u ?_ (by decide)) | (refine frF_s ?_ (by decide)) | (refine frF_l ?_ (by decide)))) (fun i' m' h1 h2 => by
            simp only [pvUp_ap, true_and]
            by_cases e : i' = i
            · obtain rfl : m' = m := by omega
              rw [if_pos e, hx, e]
            · rw [if_neg e]; exact o1 i' m' h1 (by omega))
          rw [show m + 1 - 1 = m by omega, ← hx] at q9
          exact q9
        refine hc 20 _ _ _ fun _ _ => ?_
        simp only [pvSt1]
        simp only [C_X6_letterAt, C_X6_valuationAt, C_X0_statesAhead, C_X9_isIndex, g20, g21, g22, g23, gb, en, pvE_aload_n1, pvLA_s, pvLd, pvE_invokevirtual, pvC1_s, pvC2_s, pvAf_v, pvAf_x, pvPop, pvCs, pvCat, pvPush, aX4_findHopeful_79, pvSh_0, pvSh_1, pvSh_2, pvSh_3, pvSh_4, pvSh_5, pvSh_6, pvSh_7, pvSh_8, pvSh_9, pvSh_10, pvSh_11, pvSh_12, pvSh_13, pvSh_14, pvSh_15, pvSh_16, pvSh_17, pvSh_18, pvSh_19, pvSh_20, pvSh_21, pvSh_22, pvSh_23, pvSh_24, pvSh_25, pvSh_26, pvSh_27, pvSh_28, pvSh_29, pvSh_30, pvSh_31, pvSh_32, pvSh_33, pvSh_34, pvSh_35, pvSh_36, pvSh_37, pvSh_38, pvSh_39, pvSh_40, pvSh_41, pvSh_42, pvSh_43, pvSh_44, pvSh_45, pvSh_46, pvSh_47, pvSh_48, pvSh_49, pvSh_50, pvSh_51, pvSh_52, pvSh_53, pvSh_54, pvSh_55, pvSh_56, pvSh_57, pvSh_58, pvSh_59, pvE_istore_n3, pvS1, List.length_cons, List.length_nil, pvClr_i, pvClr_r, pvClr_l, pvClr_d, pvClr_f, pvClr_n, pvE_aload_n2, pvE_getfield, pvGf_0, pvGf_1, pvGf_2, fX4_32, pvRf_0_0, pvRf_0_1, pvRf_0_2, pvRf_0_3, pvRf_0_4, pvRf_0_5, pvRf_0_6, pvRf_0_7, pvRf_0_8, pvRf_0_9, pvRf_0_10, pvRf_1_0, pvRf_3_0, pvRf_5_0, pvRf_5_1, pvRf_5_2, pvRf_9_0, pvRf_9_1, pvRf_9_2, pvRf_13_0, pvRf_13_1, pvRf_13_2, pvRf_17_0, pvRf_17_2, pvRf_20_0, pvRf_20_1, pvRf_20_2, pvRf_24_0, pvRf_24_1, pvRf_24_2, pvRf_28_0, pvRf_28_1, pvRf_28_2, pvRf_28_3, pvRf_33_0, pvRf_33_1, pvRf_36_0, pvRf_36_1, pvRf_39_0, pvRf_39_1, pvRf_39_2, pvRf_39_5, pvRf_39_6, pvRf_39_9, pvRf_39_13, pvRf_39_15, pvRf_39_16, pvRf_39_17, pvRf_39_19, pvRf_39_20, pvRf_39_22, pvRf_39_23, pvRf_39_24, pvRf_39_25, pvRf_39_29, pvRf_39_30, pvE_istore, pvE_iload, pvLI_s, pvE_if_lt, pvE_icmp_ge, pvE_iload_n3, aX4_findHopeful_38, aX4_findHopeful_42, aX4_findHopeful_82, pvE_aload_n0, fX4_18, pvE_arraylength, pvAn, pvE_invokestatic (h0 := eX4_60), aX4_findHopeful_60, pvE_if_eq, pvE_iastore, pvAI, pvE_iinc, pvIc_s, pvE_goto, pvE_return, bX4_findHopeful_0, uX4_findHopeful_0, bX4_findHopeful_11, uX4_findHopeful_11, bX4_findHopeful_43, uX4_findHopeful_43, bX4_findHopeful_64, uX4_findHopeful_64, bX4_findHopeful_70, uX4_findHopeful_70, pvMk_t, pvMk_f, pvMk_n, pvRecv_r, pvUp_nl, pvUp_same, pvUp_ap, pvSt_ap, pvX_c, pvX_ms, pvX_mn, pvE_nil, pvEn_i, pvEn_r, pvEn_l, pvEn_0, pvEn_s, pvRt, pvRv, pvTh, pvKc, pvGo, pvTgt, Int.toNat_natCast, false_and, and_false, true_and, and_true, if_true, if_false, reduceIte, reduceCtorEq, forall_const, false_or, or_false, true_or, or_true, ne_eq, not_true_eq_false, not_false_eq_true, implies_true, false_implies, Nat.reduceAdd, Nat.reduceSub, Nat.reduceMul, Nat.reduceEqDiff, Nat.reduceLT, Nat.reduceLeDiff, Int.reduceAdd, Int.reduceSub, Int.reduceMul, Int.reduceNeg, Int.reduceToNat, Int.reduceLE, Int.reduceLT, Int.reduceEq, Int.reduceNe, and_self]
        by_cases hx : (i : Int) < n
        · have hv := WcF_v hd (k := i) (by omega)
          have e2 := hd.2 i (by omega)
          have q9 := step (saF (autC (z.1 (b + 1))) (hpK (autC (z.1 (b + 1))) (z.1 21) (z.1 22) (m - 1) (i + 1)) (z.1 22 i) (z.1 23 i)) (by
            rw [e2]
            obtain ⟨m, rfl⟩ : ∃ k, m = k + 1 := ⟨m - 1, by omega⟩
            rfl)
          (repeat' (first | with_reducible apply And.intro | intro _))
          all_goals first
            | omega
            | assumption
            | exact q9
        · have q9 := step (hpK (autC (z.1 (b + 1))) (z.1 21) (z.1 22) (m - 1) (i + 1)) (by
            obtain rfl : m = 0 := by omega
            rfl)
          (repeat' (first | with_reducible apply And.intro | intro _))
          all_goals first
            | omega
            | exact q9
    refine hc 20 _ _ _ fun _ _ => ?_
    have q9 := loop (n + 1) 0 z (by omega) frF_0 (fun i' m' h1 h2 => by omega)
    rw [show ((n + 1 : Nat) : Int) - 1 = n by omega] at q9
    have q8 : hpK (autC (z.1 (b + 1))) (z.1 21) (z.1 22) (0 - 1) (n + 1) = z.1 (b + 1) 2 := rfl
    rw [q8] at q9
    simp only [pvSt1]
    simp only [C_X0_finalStates, en, pvE_aload_n1, pvLA_s, pvLd, pvE_invokevirtual, pvC1_s, pvC2_s, pvAf_v, pvAf_x, pvPop, pvCs, pvCat, pvPush, aX4_findHopeful_79, pvSh_0, pvSh_1, pvSh_2, pvSh_3, pvSh_4, pvSh_5, pvSh_6, pvSh_7, pvSh_8, pvSh_9, pvSh_10, pvSh_11, pvSh_12, pvSh_13, pvSh_14, pvSh_15, pvSh_16, pvSh_17, pvSh_18, pvSh_19, pvSh_20, pvSh_21, pvSh_22, pvSh_23, pvSh_24, pvSh_25, pvSh_26, pvSh_27, pvSh_28, pvSh_29, pvSh_30, pvSh_31, pvSh_32, pvSh_33, pvSh_34, pvSh_35, pvSh_36, pvSh_37, pvSh_38, pvSh_39, pvSh_40, pvSh_41, pvSh_42, pvSh_43, pvSh_44, pvSh_45, pvSh_46, pvSh_47, pvSh_48, pvSh_49, pvSh_50, pvSh_51, pvSh_52, pvSh_53, pvSh_54, pvSh_55, pvSh_56, pvSh_57, pvSh_58, pvSh_59, pvE_istore_n3, pvS1, List.length_cons, List.length_nil, pvClr_i, pvClr_r, pvClr_l, pvClr_d, pvClr_f, pvClr_n, pvE_aload_n2, pvE_getfield, pvGf_0, pvGf_1, pvGf_2, fX4_32, pvRf_0_0, pvRf_0_1, pvRf_0_2, pvRf_0_3, pvRf_0_4, pvRf_0_5, pvRf_0_6, pvRf_0_7, pvRf_0_8, pvRf_0_9, pvRf_0_10, pvRf_1_0, pvRf_3_0, pvRf_5_0, pvRf_5_1, pvRf_5_2, pvRf_9_0, pvRf_9_1, pvRf_9_2, pvRf_13_0, pvRf_13_1, pvRf_13_2, pvRf_17_0, pvRf_17_2, pvRf_20_0, pvRf_20_1, pvRf_20_2, pvRf_24_0, pvRf_24_1, pvRf_24_2, pvRf_28_0, pvRf_28_1, pvRf_28_2, pvRf_28_3, pvRf_33_0, pvRf_33_1, pvRf_36_0, pvRf_36_1, pvRf_39_0, pvRf_39_1, pvRf_39_2, pvRf_39_5, pvRf_39_6, pvRf_39_9, pvRf_39_13, pvRf_39_15, pvRf_39_16, pvRf_39_17, pvRf_39_19, pvRf_39_20, pvRf_39_22, pvRf_39_23, pvRf_39_24, pvRf_39_25, pvRf_39_29, pvRf_39_30, pvE_istore, pvE_iload, pvLI_s, pvE_if_lt, pvE_icmp_ge, pvE_iload_n3, aX4_findHopeful_38, aX4_findHopeful_42, aX4_findHopeful_82, pvE_aload_n0, fX4_18, pvE_arraylength, pvAn, pvE_invokestatic (h0 := eX4_60), aX4_findHopeful_60, pvE_if_eq, pvE_iastore, pvAI, pvE_iinc, pvIc_s, pvE_goto, pvE_return, bX4_findHopeful_0, uX4_findHopeful_0, bX4_findHopeful_11, uX4_findHopeful_11, bX4_findHopeful_43, uX4_findHopeful_43, bX4_findHopeful_64, uX4_findHopeful_64, bX4_findHopeful_70, uX4_findHopeful_70, pvMk_t, pvMk_f, pvMk_n, pvRecv_r, pvUp_nl, pvUp_same, pvUp_ap, pvSt_ap, pvX_c, pvX_ms, pvX_mn, pvE_nil, pvEn_i, pvEn_r, pvEn_l, pvEn_0, pvEn_s, pvRt, pvRv, pvTh, pvKc, pvGo, pvTgt, Int.toNat_natCast, false_and, and_false, true_and, and_true, if_true, if_false, reduceIte, reduceCtorEq, forall_const, false_or, or_false, true_or, or_true, ne_eq, not_true_eq_false, not_false_eq_true, implies_true, false_implies, Nat.reduceAdd, Nat.reduceSub, Nat.reduceMul, Nat.reduceEqDiff, Nat.reduceLT, Nat.reduceLeDiff, Int.reduceAdd, Int.reduceSub, Int.reduceMul, Int.reduceNeg, Int.reduceToNat, Int.reduceLE, Int.reduceLT, Int.reduceEq, Int.reduceNe, and_self]
    (repeat' (first | with_reducible apply And.intro | intro _))
    all_goals first
      | omega
      | assumption
  · exact h.elim
def C_X4_first : pvC
  | [.inr (.inr (.inl id)), .inr (.inr (.inl b)), .inr (.inr (.inl w)), .inl i], z, Q => id = 24 ∧ ((b = 1 ∨ b = 3) ∧ w = 20 ∧ WfC (z.1 (b + 1)) ∧ WcF z.1 ∧ 0 ≤ i ∧ i < z.1 20 4) ∧
      ∀ z' : pvM, frF [27] [] z z' → (pvAnd (autC (z.1 (b + 1))).2.1 (hpK (autC (z.1 (b + 1))) (z.1 21) (z.1 22) (z.1 20 4).toNat 0) = 0 → Q (.inl (some (vI (-1)))) z') ∧
        (¬ pvAnd (autC (z.1 (b + 1))).2.1 (hpK (autC (z.1 (b + 1))) (z.1 21) (z.1 22) (z.1 20 4).toNat 0) = 0 → Q (.inl (some (vI (frK (autC (z.1 (b + 1))) (z.1 21) (z.1 22) (z.1 20 4).toNat (i.toNat + 1)).2))) z')
  | _, _, _ => False
def bX4_first : Nat → List (Instr × Nat)
  | 0 => [(.aload_n 0, 1), (.aload_n 1, 1), (.aload_n 2, 1), (.invokevirtual 63, 3), (.aload_n 1, 1), (.invokevirtual 22, 3), (.aload_n 0, 1), (.iconst 0, 1), (.invokevirtual 67, 3), (.iand, 1), (.istore 4, 2), (.iload 4, 2), (.ifCond .ne 5, 3), (.iconst (-1), 1), (.ireturn, 1)]
  | 25 => [(.iload 4, 2), (.iload 4, 2), (.ineg, 1), (.iand, 1), (.iconst 1, 1), (.isub, 1), (.invokestatic 70, 3), (.istore 5, 2), (.iconst (-1), 1), (.istore 6, 2), (.iconst 0, 1), (.istore 7, 2)]
  | 44 => [(.iload 7, 2), (.iload_n 3, 1), (.if_icmp .gt 46, 3), (.iload 7, 2), (.aload_n 2, 1), (.getfield 32, 3), (.if_icmp .ge 37, 3), (.aload_n 1, 1), (.iload 5, 2), (.aload_n 0, 1), (.iload 7, 2), (.iconst 1, 1), (.iadd, 1), (.invokevirtual 67, 3), (.aload_n 2, 1), (.iload 7, 2), (.invokevirtual 75, 3), (.istore 6, 2), (.aload_n 1, 1), (.iload 6, 2), (.iconst 2, 1), (.invokevirtual 52, 3), (.istore 5, 2), (.iinc 7 1, 3), (.goto (-46), 3)]
  | 93 => [(.iload 6, 2), (.ireturn, 1)]
  | _ => []
def uX4_first : Nat → Option (List Bool)
  | 44 => some [true, true, true, true, false, true, true, true]
  | _ => none
def aX4_first : pvCa
  | 22 => some (1, false, 0, 0, C_X0_initialStates)
  | 52 => some (3, false, 0, 0, C_X0_cell)
  | 63 => some (3, false, 4, 0, C_X4_findHopeful)
  | 67 => some (2, false, 4, 0, C_X4_hopefulAt)
  | 70 => some (1, true, 0, 0, C_J6_bitCount_0f7a4)
  | 75 => some (5, false, 0, 0, C_X0_firstMove)
  | _ => none
theorem bX4_first_0 : bX4_first 0 = [(.aload_n 0, 1), (.aload_n 1, 1), (.aload_n 2, 1), (.invokevirtual 63, 3), (.aload_n 1, 1), (.invokevirtual 22, 3), (.aload_n 0, 1), (.iconst 0, 1), (.invokevirtual 67, 3), (.iand, 1), (.istore 4, 2), (.iload 4, 2), (.ifCond .ne 5, 3), (.iconst (-1), 1), (.ireturn, 1)] := rfl
theorem uX4_first_0 : uX4_first 0 = none := rfl
theorem bX4_first_25 : bX4_first 25 = [(.iload 4, 2), (.iload 4, 2), (.ineg, 1), (.iand, 1), (.iconst 1, 1), (.isub, 1), (.invokestatic 70, 3), (.istore 5, 2), (.iconst (-1), 1), (.istore 6, 2), (.iconst 0, 1), (.istore 7, 2)] := rfl
theorem uX4_first_25 : uX4_first 25 = none := rfl
theorem bX4_first_44 : bX4_first 44 = [(.iload 7, 2), (.iload_n 3, 1), (.if_icmp .gt 46, 3), (.iload 7, 2), (.aload_n 2, 1), (.getfield 32, 3), (.if_icmp .ge 37, 3), (.aload_n 1, 1), (.iload 5, 2), (.aload_n 0, 1), (.iload 7, 2), (.iconst 1, 1), (.iadd, 1), (.invokevirtual 67, 3), (.aload_n 2, 1), (.iload 7, 2), (.invokevirtual 75, 3), (.istore 6, 2), (.aload_n 1, 1), (.iload 6, 2), (.iconst 2, 1), (.invokevirtual 52, 3), (.istore 5, 2), (.iinc 7 1, 3), (.goto (-46), 3)] := rfl
theorem uX4_first_44 : uX4_first 44 = some [true, true, true, true, false, true, true, true] := rfl
theorem bX4_first_93 : bX4_first 93 = [(.iload 6, 2), (.ireturn, 1)] := rfl
theorem uX4_first_93 : uX4_first 93 = none := rfl
theorem aX4_first_22 : aX4_first 22 = some (1, false, 0, 0, C_X0_initialStates) := rfl
theorem aX4_first_52 : aX4_first 52 = some (3, false, 0, 0, C_X0_cell) := rfl
theorem aX4_first_63 : aX4_first 63 = some (3, false, 4, 0, C_X4_findHopeful) := rfl
theorem aX4_first_67 : aX4_first 67 = some (2, false, 4, 0, C_X4_hopefulAt) := rfl
theorem aX4_first_70 : aX4_first 70 = some (1, true, 0, 0, C_J6_bitCount_0f7a4) := rfl
theorem aX4_first_75 : aX4_first 75 = some (5, false, 0, 0, C_X0_firstMove) := rfl
def mX4_first : Room := { frames := 6, cells := 1, slots := 6, locals := 137 }
set_option maxRecDepth 100000 in
set_option maxHeartbeats 4000000 in
theorem okX4_first : pvOkM fX4 aX4_first kX4 eX4 (some .int) bX4_first uX4_first 8 C_X4_first := by
  intro Q SW hc as z h hS hz
  unfold C_X4_first at h
  split at h
  · rename_i id b w i
    obtain ⟨rfl, ⟨hb, rfl, hw, hd, hi⟩, h2⟩ := h
    refine ⟨Nat.le_of_ble_eq_true rfl, ?_⟩
    have hsh : pvSh b = Sum.inl 0 := by rcases hb with rfl | rfl <;> rfl
    have b27 : b + 1 ∉ [27] := by rcases hb with rfl | rfl <;> decide
    have hd1 := hd.1.1
    have hn10 : 0 ≤ z.1 (b + 1) 0 ∧ z.1 (b + 1) 0 ≤ 10 := hw.1.1
    obtain ⟨n, en⟩ : ∃ n : Nat, z.1 20 4 = n := ⟨(z.1 20 4).toNat, by omega⟩
    obtain ⟨i, rfl⟩ : ∃ n : Nat, i = n := ⟨i.toNat, by omega⟩
    rw [en] at hd1 hi
    rw [en, Int.toNat_natCast, Int.toNat_natCast] at h2
    have hs0 : (autC (z.1 (b + 1))).2.1 = z.1 (b + 1) 1 := rfl
    rw [hs0] at h2
    have hr := hpK_r hw.1 (z.1 21) (z.1 22)
    have loop : ∀ (m k : Nat) (z' : pvM), k + m = i + 1 → ¬ pvAnd (z.1 (b + 1) 1) (hpK (autC (z.1 (b + 1))) (z.1 21) (z.1 22) n 0) = 0 → frF [27] [] z z' → (∀ i m : Nat, (i : Int) + m = n → z'.1 27 i = hpK (autC (z.1 (b + 1))) (z.1 21) (z.1 22) m i) →
        SW 44 [some (vR 24), some (vR b), some (vR 20), some (vI (i : Int)), none, some (vI (frK (autC (z.1 (b + 1))) (z.1 21) (z.1 22) n k).1), some (vI (frK (autC (z.1 (b + 1))) (z.1 21) (z.1 22) n k).2), some (vI (k : Int))] z' := by
      intro m
      induction m with
      | zero =>
        intro k z' hk h0 f1 o1
        obtain rfl : k = i + 1 := by omega
        have g20 := f1.1 20 (by decide)
        have q9 := (h2 z' f1).2 h0
        refine hc 20 _ _ _ fun _ _ => ?_
        simp only [pvSt1]
        simp only [g20, en, pvE_aload_n0, pvLA_s, pvLd, pvE_aload_n1, pvE_aload_n2, pvE_invokevirtual, pvC1_s, pvC2_s, pvAf_v, pvAf_x, pvPop, pvCs, pvCat, pvPush, aX4_first_63, pvSh_0, pvSh_1, pvSh_2, pvSh_3, pvSh_4, pvSh_5, pvSh_6, pvSh_7, pvSh_8, pvSh_9, pvSh_10, pvSh_11, pvSh_12, pvSh_13, pvSh_14, pvSh_15, pvSh_16, pvSh_17, pvSh_18, pvSh_19, pvSh_20, pvSh_21, pvSh_22, pvSh_23, pvSh_24, pvSh_25, pvSh_26, pvSh_27, pvSh_28, pvSh_29, pvSh_30, pvSh_31, pvSh_32, pvSh_33, pvSh_34, pvSh_35, pvSh_36, pvSh_37, pvSh_38, pvSh_39, pvSh_40, pvSh_41, pvSh_42, pvSh_43, pvSh_44, pvSh_45, pvSh_46, pvSh_47, pvSh_48, pvSh_49, pvSh_50, pvSh_51, pvSh_52, pvSh_53, pvSh_54, pvSh_55, pvSh_56, pvSh_57, pvSh_58, pvSh_59, aX4_first_22, pvE_iconst, aX4_first_67, pvE_iand, pvE_istore, pvS1, List.length_cons, List.length_nil, pvClr_i, pvClr_r, pvClr_l, pvClr_d, pvClr_f, pvClr_n, pvE_iload, pvLI_s, pvE_if_ne, pvE_ireturn, pvE_ineg, pvE_isub, pvE_invokestatic (h0 := eX4_70), aX4_first_70, pvE_iload_n3, pvE_icmp_gt, pvE_getfield, pvGf_0, pvGf_1, pvGf_2, fX4_32, pvRf_0_0, pvRf_0_1, pvRf_0_2, pvRf_0_3, pvRf_0_4, pvRf_0_5, pvRf_0_6, pvRf_0_7, pvRf_0_8, pvRf_0_9, pvRf_0_10, pvRf_1_0, pvRf_3_0, pvRf_5_0, pvRf_5_1, pvRf_5_2, pvRf_9_0, pvRf_9_1, pvRf_9_2, pvRf_13_0, pvRf_13_1, pvRf_13_2, pvRf_17_0, pvRf_17_2, pvRf_20_0, pvRf_20_1, pvRf_20_2, pvRf_24_0, pvRf_24_1, pvRf_24_2, pvRf_28_0, pvRf_28_1, pvRf_28_2, pvRf_28_3, pvRf_33_0, pvRf_33_1, pvRf_36_0, pvRf_36_1, pvRf_39_0, pvRf_39_1, pvRf_39_2, pvRf_39_5, pvRf_39_6, pvRf_39_9, pvRf_39_13, pvRf_39_15, pvRf_39_16, pvRf_39_17, pvRf_39_19, pvRf_39_20, pvRf_39_22, pvRf_39_23, pvRf_39_24, pvRf_39_25, pvRf_39_29, pvRf_39_30, pvE_icmp_ge, pvE_iadd, aX4_first_75, aX4_first_52, pvE_iinc, pvIc_s, pvE_goto, bX4_first_0, uX4_first_0, bX4_first_25, uX4_first_25, bX4_first_44, uX4_first_44, bX4_first_93, uX4_first_93, pvMk_t, pvMk_f, pvMk_n, pvRecv_r, pvUp_nl, pvUp_same, pvUp_ap, pvSt_ap, pvX_c, pvX_ms, pvX_mn, pvE_nil, pvEn_i, pvEn_r, pvEn_l, pvEn_0, pvEn_s, pvRt, pvRv, pvTh, pvKc, pvGo, pvTgt, Int.toNat_natCast, false_and, and_false, true_and, and_true, if_true, if_false, reduceIte, reduceCtorEq, forall_const, false_or, or_false, true_or, or_true, ne_eq, not_true_eq_false, not_false_eq_true, implies_true, false_implies, Nat.reduceAdd, Nat.reduceSub, Nat.reduceMul, Nat.reduceEqDiff, Nat.reduceLT, Nat.reduceLeDiff, Int.reduceAdd, Int.reduceSub, Int.reduceMul, Int.reduceNeg, Int.reduceToNat, Int.reduceLE, Int.reduceLT, Int.reduceEq, Int.reduceNe, and_self]
        (repeat' (first | with_reducible apply And.intro | intro _))
        all_goals first
          | omega
          | exact q9
      | succ m ih =>
        intro k z' hk h0 f1 o1
        have g20 := f1.1 20 (by decide)
        have g21 := f1.1 21 (by decide)
        have g22 := f1.1 22 (by decide)
        have g23 := f1.1 23 (by decide)
        have gb := f1.1 (b + 1) b27
        have k1 : ((k : Int) + 1).toNat = k + 1 := by omega
        have eh := o1 (k + 1) (n - (k + 1)) (by omega)
        have hrk := hr (n - (k + 1)) (k + 1)
        obtain ⟨i1, i2⟩ := frK_ok hw.1 (z.1 21) (z.1 22) n h0 k (by omega)
        obtain ⟨i3, i4⟩ := frK_t hw.1 (z.1 21) (z.1 22) n h0 k (by omega)
        have i4' : (frK (autC (z.1 (b + 1))) (z.1 21) (z.1 22) n (k + 1)).2 < z.1 (b + 1) 0 := i4
        have e2 := hd.2 k (by omega)
        have ef : fmK (autC (z.1 (b + 1))).2.2.2 (frK (autC (z.1 (b + 1))) (z.1 21) (z.1 22) n k).1 (hpK (autC (z.1 (b + 1))) (z.1 21) (z.1 22) (n - (k + 1)) (k + 1)) (z.1 22 k) (z.1 23 k) (z.1 (b + 1) 0).toNat 0 = (frK (autC (z.1 (b + 1))) (z.1 21) (z.1 22) n (k + 1)).2 := by rw [e2]; rfl
        have es : cT (z.1 (b + 1)) (frK (autC (z.1 (b + 1))) (z.1 21) (z.1 22) n (k + 1)).2.toNat 2 = (frK (autC (z.1 (b + 1))) (z.1 21) (z.1 22) n (k + 1)).1 := by
          have := autC_T (f := z.1 (b + 1)) (t := (frK (autC (z.1 (b + 1))) (z.1 21) (z.1 22) n (k + 1)).2.toNat) (by omega)
          rw [← nrT_s (T := cT (z.1 (b + 1)) (frK (autC (z.1 (b + 1))) (z.1 21) (z.1 22) n (k + 1)).2.toNat) (show 2 < 4 by decide), ← this]
          rfl
        have ihk := ih (k + 1) z' (by omega) h0 f1 o1
        have hd' : WcF z'.1 := by unfold WcF; rw [g20, g21, g22, g23]; exact hd
        refine hc 20 _ _ _ fun _ _ => ?_
        simp only [pvSt1]
        simp only [C_X4_hopefulAt, C_X0_firstMove, C_X0_cell, g20, g21, g22, g23, gb, en, k1, eh, ef, es, pvE_aload_n0, pvLA_s, pvLd, pvE_aload_n1, pvE_aload_n2, pvE_invokevirtual, pvC1_s, pvC2_s, pvAf_v, pvAf_x, pvPop, pvCs, pvCat, pvPush, aX4_first_63, pvSh_0, pvSh_1, pvSh_2, pvSh_3, pvSh_4, pvSh_5, pvSh_6, pvSh_7, pvSh_8, pvSh_9, pvSh_10, pvSh_11, pvSh_12, pvSh_13, pvSh_14, pvSh_15, pvSh_16, pvSh_17, pvSh_18, pvSh_19, pvSh_20, pvSh_21, pvSh_22, pvSh_23, pvSh_24, pvSh_25, pvSh_26, pvSh_27, pvSh_28, pvSh_29, pvSh_30, pvSh_31, pvSh_32, pvSh_33, pvSh_34, pvSh_35, pvSh_36, pvSh_37, pvSh_38, pvSh_39, pvSh_40, pvSh_41, pvSh_42, pvSh_43, pvSh_44, pvSh_45, pvSh_46, pvSh_47, pvSh_48, pvSh_49, pvSh_50, pvSh_51, pvSh_52, pvSh_53, pvSh_54, pvSh_55, pvSh_56, pvSh_57, pvSh_58, pvSh_59, aX4_first_22, pvE_iconst, aX4_first_67, pvE_iand, pvE_istore, pvS1, List.length_cons, List.length_nil, pvClr_i, pvClr_r, pvClr_l, pvClr_d, pvClr_f, pvClr_n, pvE_iload, pvLI_s, pvE_if_ne, pvE_ireturn, pvE_ineg, pvE_isub, pvE_invokestatic (h0 := eX4_70), aX4_first_70, pvE_iload_n3, pvE_icmp_gt, pvE_getfield, pvGf_0, pvGf_1, pvGf_2, fX4_32, pvRf_0_0, pvRf_0_1, pvRf_0_2, pvRf_0_3, pvRf_0_4, pvRf_0_5, pvRf_0_6, pvRf_0_7, pvRf_0_8, pvRf_0_9, pvRf_0_10, pvRf_1_0, pvRf_3_0, pvRf_5_0, pvRf_5_1, pvRf_5_2, pvRf_9_0, pvRf_9_1, pvRf_9_2, pvRf_13_0, pvRf_13_1, pvRf_13_2, pvRf_17_0, pvRf_17_2, pvRf_20_0, pvRf_20_1, pvRf_20_2, pvRf_24_0, pvRf_24_1, pvRf_24_2, pvRf_28_0, pvRf_28_1, pvRf_28_2, pvRf_28_3, pvRf_33_0, pvRf_33_1, pvRf_36_0, pvRf_36_1, pvRf_39_0, pvRf_39_1, pvRf_39_2, pvRf_39_5, pvRf_39_6, pvRf_39_9, pvRf_39_13, pvRf_39_15, pvRf_39_16, pvRf_39_17, pvRf_39_19, pvRf_39_20, pvRf_39_22, pvRf_39_23, pvRf_39_24, pvRf_39_25, pvRf_39_29, pvRf_39_30, pvE_icmp_ge, pvE_iadd, aX4_first_75, aX4_first_52, pvE_iinc, pvIc_s, pvE_goto, bX4_first_0, uX4_first_0, bX4_first_25, uX4_first_25, bX4_first_44, uX4_first_44, bX4_first_93, uX4_first_93, pvMk_t, pvMk_f, pvMk_n, pvRecv_r, pvUp_nl, pvUp_same, pvUp_ap, pvSt_ap, pvX_c, pvX_ms, pvX_mn, pvE_nil, pvEn_i, pvEn_r, pvEn_l, pvEn_0, pvEn_s, pvRt, pvRv, pvTh, pvKc, pvGo, pvTgt, Int.toNat_natCast, false_and, and_false, true_and, and_true, if_true, if_false, reduceIte, reduceCtorEq, forall_const, false_or, or_false, true_or, or_true, ne_eq, not_true_eq_false, not_false_eq_true, implies_true, false_implies, Nat.reduceAdd, Nat.reduceSub, Nat.reduceMul, Nat.reduceEqDiff, Nat.reduceLT, Nat.reduceLeDiff, Int.reduceAdd, Int.reduceSub, Int.reduceMul, Int.reduceNeg, Int.reduceToNat, Int.reduceLE, Int.reduceLT, Int.reduceEq, Int.reduceNe, and_self]
        (repeat' (first | with_reducible apply And.intro | intro _))
        all_goals first
          | omega
          | assumption
    refine hc 20 _ _ _ fun _ _ => ?_
    simp only [pvSt1]
    simp only [C_X4_findHopeful, C_X0_initialStates, C_X4_hopefulAt, C_J6_bitCount_0f7a4, pvE_aload_n0, pvLA_s, pvLd, pvE_aload_n1, pvE_aload_n2, pvE_invokevirtual, pvC1_s, pvC2_s, pvAf_v, pvAf_x, pvPop, pvCs, pvCat, pvPush, aX4_first_63, pvSh_0, pvSh_1, pvSh_2, pvSh_3, pvSh_4, pvSh_5, pvSh_6, pvSh_7, pvSh_8, pvSh_9, pvSh_10, pvSh_11, pvSh_12, pvSh_13, pvSh_14, pvSh_15, pvSh_16, pvSh_17, pvSh_18, pvSh_19, pvSh_20, pvSh_21, pvSh_22, pvSh_23, pvSh_24, pvSh_25, pvSh_26, pvSh_27, pvSh_28, pvSh_29, pvSh_30, pvSh_31, pvSh_32, pvSh_33, pvSh_34, pvSh_35, pvSh_36, pvSh_37, pvSh_38, pvSh_39, pvSh_40, pvSh_41, pvSh_42, pvSh_43, pvSh_44, pvSh_45, pvSh_46, pvSh_47, pvSh_48, pvSh_49, pvSh_50, pvSh_51, pvSh_52, pvSh_53, pvSh_54, pvSh_55, pvSh_56, pvSh_57, pvSh_58, pvSh_59, aX4_first_22, pvE_iconst, aX4_first_67, pvE_iand, pvE_istore, pvS1, List.length_cons, List.length_nil, pvClr_i, pvClr_r, pvClr_l, pvClr_d, pvClr_f, pvClr_n, pvE_iload, pvLI_s, pvE_if_ne, pvE_ireturn, pvE_ineg, pvE_isub, pvE_invokestatic (h0 := eX4_70), aX4_first_70, pvE_iload_n3, pvE_icmp_gt, pvE_getfield, pvGf_0, pvGf_1, pvGf_2, fX4_32, pvRf_0_0, pvRf_0_1, pvRf_0_2, pvRf_0_3, pvRf_0_4, pvRf_0_5, pvRf_0_6, pvRf_0_7, pvRf_0_8, pvRf_0_9, pvRf_0_10, pvRf_1_0, pvRf_3_0, pvRf_5_0, pvRf_5_1, pvRf_5_2, pvRf_9_0, pvRf_9_1, pvRf_9_2, pvRf_13_0, pvRf_13_1, pvRf_13_2, pvRf_17_0, pvRf_17_2, pvRf_20_0, pvRf_20_1, pvRf_20_2, pvRf_24_0, pvRf_24_1, pvRf_24_2, pvRf_28_0, pvRf_28_1, pvRf_28_2, pvRf_28_3, pvRf_33_0, pvRf_33_1, pvRf_36_0, pvRf_36_1, pvRf_39_0, pvRf_39_1, pvRf_39_2, pvRf_39_5, pvRf_39_6, pvRf_39_9, pvRf_39_13, pvRf_39_15, pvRf_39_16, pvRf_39_17, pvRf_39_19, pvRf_39_20, pvRf_39_22, pvRf_39_23, pvRf_39_24, pvRf_39_25, pvRf_39_29, pvRf_39_30, pvE_icmp_ge, pvE_iadd, aX4_first_75, aX4_first_52, pvE_iinc, pvIc_s, pvE_goto, bX4_first_0, uX4_first_0, bX4_first_25, uX4_first_25, bX4_first_44, uX4_first_44, bX4_first_93, uX4_first_93, pvMk_t, pvMk_f, pvMk_n, pvRecv_r, pvUp_nl, pvUp_same, pvUp_ap, pvSt_ap, pvX_c, pvX_ms, pvX_mn, pvE_nil, pvEn_i, pvEn_r, pvEn_l, pvEn_0, pvEn_s, pvRt, pvRv, pvTh, pvKc, pvGo, pvTgt, Int.toNat_natCast, false_and, and_false, true_and, and_true, if_true, if_false, reduceIte, reduceCtorEq, forall_const, false_or, or_false, true_or, or_true, ne_eq, not_true_eq_false, not_false_eq_true, implies_true, false_implies, Nat.reduceAdd, Nat.reduceSub, Nat.reduceMul, Nat.reduceEqDiff, Nat.reduceLT, Nat.reduceLeDiff, Int.reduceAdd, Int.reduceSub, Int.reduceMul, Int.reduceNeg, Int.reduceToNat, Int.reduceLE, Int.reduceLT, Int.reduceEq, Int.reduceNe, and_self]
    refine ⟨⟨hb, hw, hd⟩, fun z1 f1 o1 => ?_⟩
    have gb := f1.1 (b + 1) b27
    have e0 := o1 0 n (by omega)
    rw [gb, e0]
    have ha := and15 hw.1.2.1 (hr n 0)
    rw [hs0] at ha
    by_cases h0 : pvAnd (z.1 (b + 1) 1) (hpK (autC (z.1 (b + 1))) (z.1 21) (z.1 22) n 0) = 0
    · have q9 := (h2 z1 f1).1 h0
      (repeat' (first | with_reducible apply And.intro | intro _))
      all_goals first
        | omega
        | exact q9
    · obtain ⟨l1, l2, -⟩ := low ha h0
      have q9 := loop (i + 1) 0 z1 (by omega) h0 f1 (fun i m h => o1 i m (by omega))
      have q8 : (frK (autC (z.1 (b + 1))) (z.1 21) (z.1 22) n 0).1 = lbF (pvAnd (z.1 (b + 1) 1) (hpK (autC (z.1 (b + 1))) (z.1 21) (z.1 22) n 0)) := rfl
      have q7 : (frK (autC (z.1 (b + 1))) (z.1 21) (z.1 22) n 0).2 = -1 := rfl
      rw [q8, q7, ← l2] at q9
      (repeat' (first | with_reducible apply And.intro | intro _))
      all_goals first
        | omega
        | exact q9
  · exact h.elim
