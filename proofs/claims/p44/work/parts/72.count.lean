def nxW (A : Aut) (x a d : Int) : Int := 16 * rsF (psF (x / 16) d) a + sbF A (x % 16) a (psF (x / 16) d)
def sdK (f : Int → Int → Int) : Nat → Int
  | 0 => 0
  | d + 1 => sdK f d + (f 0 (d : Nat) + f 1 (d : Nat) + f 2 (d : Nat))
/-- the words of e events that are accepted from a place -/
def wdF (A : Aut) (D : Nat) : Nat → Int → Int
  | 0, x => if pvAnd (x % 16) A.2.2.1 = 0 then 0 else 1
  | e + 1, x => sdK (fun a d => wdF A D e (nxW A x a d)) D
def smN (c : Nat → Int) (W : Int → Int) : Nat → Int
  | 0 => 0
  | n + 1 => smN c W n + c n * W (n : Nat)
theorem smN_u {c : Nat → Int} {W : Int → Int} {j : Nat} {x : Int} (n : Nat) : smN (fun k => if k = j then c j + x else c k) W n = smN c W n + (if j < n then x * W (j : Nat) else 0) := by
  induction n with
  | zero => simp [smN]
  | succ n ih =>
    simp only [smN]
    rw [ih]
    by_cases e : n = j
    · subst e
      rw [if_pos rfl, if_neg (by omega), if_pos (by omega), Int.add_mul]
      omega
    · rw [if_neg e]
      by_cases h : j < n
      · rw [if_pos h, if_pos (by omega)]; omega
      · rw [if_neg h, if_neg (by omega)]; omega
theorem smN_e {c c' : Nat → Int} {W W' : Int → Int} (n : Nat) (h : ∀ i, i < n → c' i = c i ∧ W' (i : Nat) = W (i : Nat)) : smN c' W' n = smN c W n := by
  induction n with
  | zero => rfl
  | succ n ih =>
    simp only [smN]
    rw [ih (fun i hi => h i (by omega)), (h n (by omega)).1, (h n (by omega)).2]
theorem smN_0 {c : Nat → Int} {W : Int → Int} (n : Nat) (h : ∀ i, i < n → c i = 0) : smN c W n = 0 := by
  induction n with
  | zero => rfl
  | succ n ih =>
    simp only [smN]
    rw [ih (fun i hi => h i (by omega)), h n (by omega)]
    simp
theorem smN_le {c : Nat → Int} (n : Nat) (h : ∀ i, i < n → 0 ≤ c i) : 0 ≤ smN c (fun _ => 1) n ∧ ∀ i, i < n → c i ≤ smN c (fun _ => 1) n := by
  induction n with
  | zero => exact ⟨Int.le_refl _, fun i hi => absurd hi (Nat.not_lt_zero _)⟩
  | succ n ih =>
    obtain ⟨a, b⟩ := ih (fun i hi => h i (by omega))
    have hn := h n (by omega)
    simp only [smN]
    refine ⟨by omega, fun i hi => ?_⟩
    by_cases e : i = n
    · subst e; omega
    · have := b i (by omega); omega
theorem smN_c {c : Nat → Int} {k : Int} (n : Nat) : smN c (fun _ => k) n = k * smN c (fun _ => 1) n := by
  induction n with
  | zero => simp [smN]
  | succ n ih =>
    simp only [smN]
    rw [ih, Int.mul_add, Int.mul_one, Int.mul_comm k (c n)]
theorem sdK_1 (D : Nat) : sdK (fun _ _ => 1) D = 3 * D := by
  induction D with
  | zero => rfl
  | succ D ih => simp only [sdK]; rw [ih]; omega
theorem sdK_r {f : Int → Int → Int} {B : Int} (D : Nat) (h : ∀ a d : Int, (0 ≤ a ∧ a ≤ 2) → (0 ≤ d ∧ d < D) → 0 ≤ f a d ∧ f a d ≤ B) : 0 ≤ sdK f D ∧ sdK f D ≤ 3 * D * B := by
  induction D with
  | zero => simp [sdK]
  | succ D ih =>
    have i1 := ih (fun a d ha hd => h a d ha (by omega))
    have h0 := h 0 D (by omega) (by omega)
    have h1 := h 1 D (by omega) (by omega)
    have h2 := h 2 D (by omega) (by omega)
    simp only [sdK]
    have e : 3 * ((D + 1 : Nat) : Int) * B = 3 * D * B + 3 * B := by
      rw [Int.natCast_add, Int.mul_add, Int.add_mul]
      simp
    rw [e]
    omega
theorem wd_r (A : Aut) {D : Nat} (hD : D ≤ 5) (e : Nat) : ∀ x, 0 ≤ wdF A D e x ∧ wdF A D e x ≤ 15 ^ e := by
  induction e with
  | zero => intro x; simp only [wdF]; split <;> decide
  | succ e ih =>
    intro x
    have h1 := sdK_r (f := fun a d => wdF A D e (nxW A x a d)) (B := 15 ^ e) D (fun a d _ _ => ih _)
    have hp : (0 : Int) ≤ 15 ^ e := Int.pow_nonneg (by decide)
    simp only [wdF]
    refine ⟨h1.1, Int.le_trans h1.2 ?_⟩
    rw [Int.pow_succ, Int.mul_comm (15 ^ e) 15]
    exact Int.mul_le_mul_of_nonneg_right (by omega) hp
theorem wd_10 (A : Aut) {D e : Nat} (hD : D ≤ 5) (he : e ≤ 10) (x : Int) : 0 ≤ wdF A D e x ∧ wdF A D e x ≤ 576650390625 := by
  have h := wd_r A hD e x
  have h2 : (15 : Int) ^ e ≤ 15 ^ 10 := by exact_mod_cast Nat.pow_le_pow_right (n := 15) (by decide) he
  have h3 : (15 : Int) ^ 10 = 576650390625 := by decide
  omega
theorem nxW_r {A : Aut} (hw : WfA A) {x a d : Int} (hx : 0 ≤ x ∧ x < 3456) (hd : 0 ≤ d) : 0 ≤ nxW A x a d ∧ nxW A x a d < 3456 ∧ nxW A x a d / 16 = rsF (psF (x / 16) d) a ∧ nxW A x a d % 16 = sbF A (x % 16) a (psF (x / 16) d) := by
  have h1 := psF_r (v := x / 16) (d := d) (by omega)
  have h2 := rsF_r (v := psF (x / 16) d) (c := a) h1
  have h3 := sbF_r hw (x % 16) a (psF (x / 16) d)
  unfold nxW
  omega
def C_X8_addTo : pvC
  | [.inr (.inr (.inl r)), .inl p, .inr (.inl w)], z, Q => (r = 34 ∨ r = 35) ∧ (0 ≤ p ∧ p < 3456) ∧ Q (.inl none) (z.1, pvUp z.2.1 r p.toNat (z.2.1 r p.toNat + w), z.2.2)
  | _, _, _ => False
def bX8_addTo : Nat → List (Instr × Nat)
  | 0 => [(.iload_n 1, 1), (.aload_n 0, 1), (.arraylength, 1), (.invokestatic 49, 3), (.ifCond .eq 10, 3), (.aload_n 0, 1), (.iload_n 1, 1), (.dup2, 1), (.laload, 1), (.lload_n 2, 1), (.ladd, 1), (.lastore, 1)]
  | 16 => [(.return_, 1)]
  | _ => []
def uX8_addTo : Nat → Option (List Bool)
  | _ => none
def aX8_addTo : pvCa
  | 49 => some (2, true, 0, 0, C_X9_isIndex)
  | _ => none
theorem bX8_addTo_0 : bX8_addTo 0 = [(.iload_n 1, 1), (.aload_n 0, 1), (.arraylength, 1), (.invokestatic 49, 3), (.ifCond .eq 10, 3), (.aload_n 0, 1), (.iload_n 1, 1), (.dup2, 1), (.laload, 1), (.lload_n 2, 1), (.ladd, 1), (.lastore, 1)] := rfl
theorem uX8_addTo_0 : uX8_addTo 0 = none := rfl
theorem bX8_addTo_16 : bX8_addTo 16 = [(.return_, 1)] := rfl
theorem uX8_addTo_16 : uX8_addTo 16 = none := rfl
theorem aX8_addTo_49 : aX8_addTo 49 = some (2, true, 0, 0, C_X9_isIndex) := rfl
set_option maxRecDepth 100000 in
set_option maxHeartbeats 4000000 in
theorem okX8_addTo : pvOkM fX8 aX8_addTo kX8 eX8 none bX8_addTo uX8_addTo 4 C_X8_addTo := by
  intro Q SW hc as z h hS hz
  unfold C_X8_addTo at h
  split at h
  · rename_i r p w
    obtain ⟨hr, hp, h2⟩ := h
    refine ⟨Nat.le_of_ble_eq_true rfl, hc 20 _ _ _ fun _ _ => ?_⟩
    clear hc hS hz
    rcases hr with rfl | rfl <;>
    (simp only [pvSt1]
     simp only [C_X9_isIndex, pvE_iload_n1, pvLI_s, pvLd, pvE_aload_n0, pvLA_s, pvE_arraylength, pvAn, pvSh_0, pvSh_1, pvSh_2, pvSh_3, pvSh_4, pvSh_5, pvSh_6, pvSh_7, pvSh_8, pvSh_9, pvSh_10, pvSh_11, pvSh_12, pvSh_13, pvSh_14, pvSh_15, pvSh_16, pvSh_17, pvSh_18, pvSh_19, pvSh_20, pvSh_21, pvSh_22, pvSh_23, pvSh_24, pvSh_25, pvSh_26, pvSh_27, pvSh_28, pvSh_29, pvSh_30, pvSh_31, pvSh_32, pvSh_33, pvSh_34, pvSh_35, pvSh_36, pvSh_37, pvSh_38, pvE_invokestatic (h0 := eX8_49), pvC1_s, pvC2_s, pvAf_v, pvAf_x, pvPop, pvCs, pvCat, pvPush, aX8_addTo_49, pvE_if_eq, pvE_dup2, pvE_laload, pvAL, pvE_lload_n2, pvLL_s, pvE_ladd, pvE_lastore, pvE_return, bX8_addTo_0, uX8_addTo_0, bX8_addTo_16, uX8_addTo_16, pvRtG, pvRecv_r, pvUp_nl, pvUp_same, pvUp_ap, pvSt_ap, pvX_c, pvX_ms, pvX_mn, pvE_nil, pvEn_i, pvEn_r, pvEn_l, pvEn_0, pvEn_s, pvRt, pvRv, pvTh, pvKc, pvGo, pvTgt, Int.toNat_natCast, false_and, and_false, true_and, and_true, if_true, if_false, reduceIte, reduceCtorEq, forall_const, false_or, or_false, true_or, or_true, ne_eq, not_true_eq_false, not_false_eq_true, implies_true, false_implies, Nat.reduceAdd, Nat.reduceSub, Nat.reduceMul, Nat.reduceEqDiff, Nat.reduceLT, Nat.reduceLeDiff, Int.reduceAdd, Int.reduceSub, Int.reduceMul, Int.reduceNeg, Int.reduceToNat, Int.reduceLE, Int.reduceLT, Int.reduceEq, Int.reduceNe, and_self]
     (repeat' first | with_reducible apply And.intro | with_reducible intro _)
     all_goals first
       | omega
       | exact h2)
  · exact h.elim
def C_X8_spread : pvC
  | [.inr (.inr (.inl id)), .inr (.inr (.inl p)), .inl x, .inl l], z, Q => id = 33 ∧ ∃ A : Aut, (psS z p A ∧ (0 ≤ x ∧ x < 3456) ∧ 0 ≤ l ∧ l ≤ 4) ∧
      ∀ z' : pvM, frF [] [35] z z' → (∀ W : Int → Int, smN (z'.2.1 35) W 3456 = smN (z.2.1 35) W 3456 + z.2.1 34 x.toNat * sdK (fun a d => W (nxW A x a d)) (l.toNat + 1)) → (0 ≤ z.2.1 34 x.toNat → (∀ i, i < 3456 → 0 ≤ z.2.1 35 i) → ∀ i, i < 3456 → 0 ≤ z'.2.1 35 i) → Q (.inl none) z'
  | _, _, _ => False
def bX8_spread : Nat → List (Instr × Nat)
  | 0 => [(.iload_n 2, 1), (.sipush 3456, 3), (.invokestatic 49, 3), (.ifCond .eq 12, 3), (.aload_n 0, 1), (.getfield 13, 3), (.iload_n 2, 1), (.laload, 1), (.goto 4, 3)]
  | 19 => [(.lconst 0, 1)]
  | 20 => [(.lstore 4, 2), (.iconst 0, 1), (.istore 6, 2)]
  | 25 => [(.iload 6, 2), (.iload_n 3, 1), (.if_icmp .gt 71, 3), (.iload_n 2, 1), (.bipush 16, 2), (.idiv, 1), (.iload 6, 2), (.invokestatic 53, 3), (.istore 7, 2), (.iconst 0, 1), (.istore 8, 2)]
  | 45 => [(.iload 8, 2), (.iconst 3, 1), (.if_icmp .ge 45, 3), (.aload_n 1, 1), (.iload_n 2, 1), (.bipush 16, 2), (.irem, 1), (.iload 8, 2), (.iload 7, 2), (.invokevirtual 57, 3), (.istore 9, 2), (.aload_n 0, 1), (.getfield 17, 3), (.bipush 16, 2), (.iload 7, 2), (.iload 8, 2), (.invokestatic 61, 3), (.imul, 1), (.iload 9, 2), (.iadd, 1), (.lload 4, 2), (.invokestatic 28, 3), (.iinc 8 1, 3), (.goto (-45), 3)]
  | 93 => [(.iinc 6 1, 3), (.goto (-71), 3)]
  | 99 => [(.return_, 1)]
  | _ => []
def uX8_spread : Nat → Option (List Bool)
  | 25 => some [true, true, true, true, true, false, true, false, false, false]
  | 45 => some [true, true, true, true, true, false, true, true, true, false]
  | _ => none
def aX8_spread : pvCa
  | 28 => some (3, true, 0, 0, C_X8_addTo)
  | 49 => some (2, true, 0, 0, C_X9_isIndex)
  | 53 => some (2, true, 0, 0, C_X7_later)
  | 57 => some (4, false, 3, 0, C_X3_successor)
  | 61 => some (2, true, 0, 0, C_X7_withZero)
  | _ => none
theorem bX8_spread_0 : bX8_spread 0 = [(.iload_n 2, 1), (.sipush 3456, 3), (.invokestatic 49, 3), (.ifCond .eq 12, 3), (.aload_n 0, 1), (.getfield 13, 3), (.iload_n 2, 1), (.laload, 1), (.goto 4, 3)] := rfl
theorem uX8_spread_0 : uX8_spread 0 = none := rfl
theorem bX8_spread_19 : bX8_spread 19 = [(.lconst 0, 1)] := rfl
theorem uX8_spread_19 : uX8_spread 19 = none := rfl
theorem bX8_spread_20 : bX8_spread 20 = [(.lstore 4, 2), (.iconst 0, 1), (.istore 6, 2)] := rfl
theorem uX8_spread_20 : uX8_spread 20 = none := rfl
theorem bX8_spread_25 : bX8_spread 25 = [(.iload 6, 2), (.iload_n 3, 1), (.if_icmp .gt 71, 3), (.iload_n 2, 1), (.bipush 16, 2), (.idiv, 1), (.iload 6, 2), (.invokestatic 53, 3), (.istore 7, 2), (.iconst 0, 1), (.istore 8, 2)] := rfl
theorem uX8_spread_25 : uX8_spread 25 = some [true, true, true, true, true, false, true, false, false, false] := rfl
theorem bX8_spread_45 : bX8_spread 45 = [(.iload 8, 2), (.iconst 3, 1), (.if_icmp .ge 45, 3), (.aload_n 1, 1), (.iload_n 2, 1), (.bipush 16, 2), (.irem, 1), (.iload 8, 2), (.iload 7, 2), (.invokevirtual 57, 3), (.istore 9, 2), (.aload_n 0, 1), (.getfield 17, 3), (.bipush 16, 2), (.iload 7, 2), (.iload 8, 2), (.invokestatic 61, 3), (.imul, 1), (.iload 9, 2), (.iadd, 1), (.lload 4, 2), (.invokestatic 28, 3), (.iinc 8 1, 3), (.goto (-45), 3)] := rfl
theorem uX8_spread_45 : uX8_spread 45 = some [true, true, true, true, true, false, true, true, true, false] := rfl
theorem bX8_spread_93 : bX8_spread 93 = [(.iinc 6 1, 3), (.goto (-71), 3)] := rfl
theorem uX8_spread_93 : uX8_spread 93 = none := rfl
theorem bX8_spread_99 : bX8_spread 99 = [(.return_, 1)] := rfl
theorem uX8_spread_99 : uX8_spread 99 = none := rfl
theorem aX8_spread_28 : aX8_spread 28 = some (3, true, 0, 0, C_X8_addTo) := rfl
theorem aX8_spread_49 : aX8_spread 49 = some (2, true, 0, 0, C_X9_isIndex) := rfl
theorem aX8_spread_53 : aX8_spread 53 = some (2, true, 0, 0, C_X7_later) := rfl
theorem aX8_spread_57 : aX8_spread 57 = some (4, false, 3, 0, C_X3_successor) := rfl
theorem aX8_spread_61 : aX8_spread 61 = some (2, true, 0, 0, C_X7_withZero) := rfl
set_option maxRecDepth 100000 in
set_option maxHeartbeats 4000000 in
theorem okX8_spread : pvOkM fX8 aX8_spread kX8 eX8 none bX8_spread uX8_spread 10 C_X8_spread := by
  intro Q SW hc as z h hS hz
  unfold C_X8_spread at h
  split at h
  · rename_i id p x l
    obtain ⟨rfl, A, ⟨hA, hx, hl⟩, h2⟩ := h
    obtain ⟨l, rfl⟩ : ∃ n : Nat, l = n := ⟨l.toNat, by omega⟩
    rw [Int.toNat_natCast] at h2
    have hid1 := hA.1
    have wA := hA.2.2.2.2
    have hshp := pvSh_ps hA.1
    obtain ⟨w, ew⟩ : ∃ w, z.2.1 34 x.toNat = w := ⟨_, rfl⟩
    rw [ew] at h2
    refine ⟨Nat.le_of_ble_eq_true rfl, ?_⟩
    have outer : ∀ (md d : Nat) (z' : pvM), d + md = l + 1 → frF [] [35] z z' → (∀ W : Int → Int, smN (z'.2.1 35) W 3456 = smN (z.2.1 35) W 3456 + w * sdK (fun a d => W (nxW A x a d)) d) → (0 ≤ w → (∀ i, i < 3456 → 0 ≤ z.2.1 35 i) → ∀ i, i < 3456 → 0 ≤ z'.2.1 35 i) →
        SW 25 [some (vR 33), some (vR p), some (vI x), some (vI (l : Int)), some (vL w), none, some (vI (d : Int)), none, none, none] z' := by
      intro md
      induction md using Nat.strongRecOn with
      | _ md ihd =>
        intro d z' hd f1 o1 o2
        have hv := psF_r (v := x / 16) (d := (d : Int)) (by omega)
        have inner : d ≤ l → ∀ (ma a : Nat) (z' : pvM), a + ma = 3 → frF [] [35] z z' → (∀ W : Int → Int, smN (z'.2.1 35) W 3456 = smN (z.2.1 35) W 3456 + w * (sdK (fun a d => W (nxW A x a d)) d + ((if 0 < a then W (nxW A x 0 d) else 0) + (if 1 < a then W (nxW A x 1 d) else 0) + (if 2 < a then W (nxW A x 2 d) else 0)))) → (0 ≤ w → (∀ i, i < 3456 → 0 ≤ z.2.1 35 i) → ∀ i, i < 3456 → 0 ≤ z'.2.1 35 i) →
            SW 45 [some (vR 33), some (vR p), some (vI x), some (vI (l : Int)), some (vL w), none, some (vI (d : Int)), some (vI (psF (x / 16) d)), some (vI (a : Int)), none] z' := by
          intro hdl ma
          induction ma using Nat.strongRecOn with
          | _ ma iha =>
            intro a z' ha f1 o1 o2
            refine hc 20 _ _ _ fun _ _ => ?_
            by_cases ha3 : 3 ≤ a
            · have q9 := ihd (md - 1) (by omega) (d + 1) z' (by omega) f1 (fun W => by
                rw [o1 W, if_pos (by omega), if_pos (by omega), if_pos (by omega)]
                rfl) o2
              simp only [pvSt1]
              simp only [pvE_iload_n2, pvLI_s, pvLd, pvE_sipush, pvE_invokestatic (h0 := eX8_49), pvC1_s, pvC2_s, pvAf_v, pvAf_x, pvPop, pvCs, pvCat, pvPush, aX8_spread_49, pvE_if_eq, pvE_aload_n0, pvLA_s, pvE_getfield, pvGf_0, pvGf_1, pvGf_2, fX8_13, pvSh_0, pvSh_1, pvSh_2, pvSh_3, pvSh_4, pvSh_5, pvSh_6, pvSh_7, pvSh_8, pvSh_9, pvSh_10, pvSh_11, pvSh_12, pvSh_13, pvSh_14, pvSh_15, pvSh_16, pvSh_17, pvSh_18, pvSh_19, pvSh_20, pvSh_21, pvSh_22, pvSh_23, pvSh_24, pvSh_25, pvSh_26, pvSh_27, pvSh_28, pvSh_29, pvSh_30, pvSh_31, pvSh_32, pvSh_33, pvSh_34, pvSh_35, pvSh_36, pvSh_37, pvSh_38, pvRf_0_0, pvRf_0_1, pvRf_0_2, pvRf_0_3, pvRf_0_4, pvRf_0_5, pvRf_0_6, pvRf_0_7, pvRf_0_8, pvRf_0_9, pvRf_0_10, pvRf_1_0, pvRf_3_0, pvRf_5_0, pvRf_5_1, pvRf_5_2, pvRf_9_0, pvRf_9_1, pvRf_9_2, pvRf_13_0, pvRf_13_1, pvRf_13_2, pvRf_17_0, pvRf_17_2, pvRf_20_0, pvRf_20_1, pvRf_20_2, pvRf_24_0, pvRf_24_1, pvRf_24_2, pvRf_28_0, pvRf_28_1, pvRf_28_2, pvRf_28_3, pvRf_33_0, pvRf_33_1, pvRf_36_0, pvRf_36_1, pvE_laload, pvAL, pvE_goto, pvE_lconst0, pvE_lstore, pvS2, List.length_cons, List.length_nil, pvClr_i, pvClr_r, pvClr_l, pvClr_d, pvClr_f, pvClr_n, pvE_iconst, pvE_istore, pvS1, pvE_iload, pvE_iload_n3, pvE_icmp_gt, pvE_bipush, pvE_idiv, pvE_invokestatic (h0 := eX8_53), aX8_spread_53, pvE_icmp_ge, pvE_aload_n1, pvE_irem, pvE_invokevirtual, aX8_spread_57, fX8_17, pvE_invokestatic (h0 := eX8_61), aX8_spread_61, pvE_imul, pvE_iadd, pvE_lload, pvLL_s, pvE_invokestatic (h0 := eX8_28), aX8_spread_28, pvE_iinc, pvIc_s, pvE_return, bX8_spread_0, uX8_spread_0, bX8_spread_19, uX8_spread_19, bX8_spread_20, uX8_spread_20, bX8_spread_25, uX8_spread_25, bX8_spread_45, uX8_spread_45, bX8_spread_93, uX8_spread_93, bX8_spread_99, uX8_spread_99, pvMk_t, pvMk_f, pvMk_n, pvRtG, pvRecv_r, pvUp_nl, pvUp_same, pvUp_ap, pvSt_ap, pvX_c, pvX_ms, pvX_mn, pvE_nil, pvEn_i, pvEn_r, pvEn_l, pvEn_0, pvEn_s, pvRt, pvRv, pvTh, pvKc, pvGo, pvTgt, Int.toNat_natCast, false_and, and_false, true_and, and_true, if_true, if_false, reduceIte, reduceCtorEq, forall_const, false_or, or_false, true_or, or_true, ne_eq, not_true_eq_false, not_false_eq_true, implies_true, false_implies, Nat.reduceAdd, Nat.reduceSub, Nat.reduceMul, Nat.reduceEqDiff, Nat.reduceLT, Nat.reduceLeDiff, Int.reduceAdd, Int.reduceSub, Int.reduceMul, Int.reduceNeg, Int.reduceToNat, Int.reduceLE, Int.reduceLT, Int.reduceEq, Int.reduceNe, and_self]
              (repeat' first | with_reducible apply And.intro | with_reducible intro _)
              all_goals first
                | omega
                | exact q9
            · have hA' := psS_m hA f1 (by simp)
              obtain ⟨s1, s2⟩ := psS_su hA' (set := x % 16) (a := (a : Int)) (v := psF (x / 16) d) (by omega) hv
              have r1 := sbF_r wA (x % 16) (a : Int) (psF (x / 16) d)
              have r2 := rsF_r (v := psF (x / 16) d) (c := (a : Int)) hv
              have enx : 16 * rsF (psF (x / 16) d) a + sbF A (x % 16) (a : Int) (psF (x / 16) d) = nxW A x a d := rfl
              have hnx := nxW_r wA (a := (a : Int)) (d := (d : Int)) hx (by omega)
              have q9 := iha (ma - 1) (by omega) (a + 1) (z'.1, pvUp z'.2.1 35 (nxW A x a d).toNat (z'.2.1 35 (nxW A x a d).toNat + w), z'.2.2) (by omega) (by (repeat' first | assumption | exact frF_0 | (refine frF_u ?_ (by decide)) | (refine frF_s ?_ (by decide)) | (refine frF_l ?_ (by decide)))) (fun W => by
                have hu := smN_u (c := z'.2.1 35) (W := W) (j := (nxW A x a d).toNat) (x := w) 3456
                rw [if_pos (by omega), show (((nxW A x a d).toNat : Nat) : Int) = nxW A x a d by omega, o1 W] at hu
                have hfe : (pvUp z'.2.1 35 (nxW A x a d).toNat (z'.2.1 35 (nxW A x a d).toNat + w)) 35 = (fun k => if k = (nxW A x a d).toNat then z'.2.1 35 (nxW A x a d).toNat + w else z'.2.1 35 k) := by
                  funext k
                  simp only [pvUp_ap, true_and]
                show smN ((pvUp z'.2.1 35 (nxW A x a d).toNat (z'.2.1 35 (nxW A x a d).toNat + w)) 35) W 3456 = _
                rw [hfe, hu, Int.add_assoc, ← Int.mul_add]
                congr 2
                rw [Int.add_assoc]
                congr 1
                rcases (show a = 0 ∨ a = 1 ∨ a = 2 by omega) with rfl | rfl | rfl <;> simp) (fun hw0 h35 i hi => by
                have := o2 hw0 h35
                show 0 ≤ (pvUp z'.2.1 35 (nxW A x a d).toNat (z'.2.1 35 (nxW A x a d).toNat + w)) 35 i
                simp only [pvUp_ap, true_and]
                split
                · have := this (nxW A x a d).toNat (by omega); omega
                · exact this i hi)
              simp only [pvSt1]
              simp only [C_X3_successor, C_X7_withZero, C_X8_addTo, s1, hshp, enx, pvE_iload_n2, pvLI_s, pvLd, pvE_sipush, pvE_invokestatic (h0 := eX8_49), pvC1_s, pvC2_s, pvAf_v, pvAf_x, pvPop, pvCs, pvCat, pvPush, aX8_spread_49, pvE_if_eq, pvE_aload_n0, pvLA_s, pvE_getfield, pvGf_0, pvGf_1, pvGf_2, fX8_13, pvSh_0, pvSh_1, pvSh_2, pvSh_3, pvSh_4, pvSh_5, pvSh_6, pvSh_7, pvSh_8, pvSh_9, pvSh_10, pvSh_11, pvSh_12, pvSh_13, pvSh_14, pvSh_15, pvSh_16, pvSh_17, pvSh_18, pvSh_19, pvSh_20, pvSh_21, pvSh_22, pvSh_23, pvSh_24, pvSh_25, pvSh_26, pvSh_27, pvSh_28, pvSh_29, pvSh_30, pvSh_31, pvSh_32, pvSh_33, pvSh_34, pvSh_35, pvSh_36, pvSh_37, pvSh_38, pvRf_0_0, pvRf_0_1, pvRf_0_2, pvRf_0_3, pvRf_0_4, pvRf_0_5, pvRf_0_6, pvRf_0_7, pvRf_0_8, pvRf_0_9, pvRf_0_10, pvRf_1_0, pvRf_3_0, pvRf_5_0, pvRf_5_1, pvRf_5_2, pvRf_9_0, pvRf_9_1, pvRf_9_2, pvRf_13_0, pvRf_13_1, pvRf_13_2, pvRf_17_0, pvRf_17_2, pvRf_20_0, pvRf_20_1, pvRf_20_2, pvRf_24_0, pvRf_24_1, pvRf_24_2, pvRf_28_0, pvRf_28_1, pvRf_28_2, pvRf_28_3, pvRf_33_0, pvRf_33_1, pvRf_36_0, pvRf_36_1, pvE_laload, pvAL, pvE_goto, pvE_lconst0, pvE_lstore, pvS2, List.length_cons, List.length_nil, pvClr_i, pvClr_r, pvClr_l, pvClr_d, pvClr_f, pvClr_n, pvE_iconst, pvE_istore, pvS1, pvE_iload, pvE_iload_n3, pvE_icmp_gt, pvE_bipush, pvE_idiv, pvE_invokestatic (h0 := eX8_53), aX8_spread_53, pvE_icmp_ge, pvE_aload_n1, pvE_irem, pvE_invokevirtual, aX8_spread_57, fX8_17, pvE_invokestatic (h0 := eX8_61), aX8_spread_61, pvE_imul, pvE_iadd, pvE_lload, pvLL_s, pvE_invokestatic (h0 := eX8_28), aX8_spread_28, pvE_iinc, pvIc_s, pvE_return, bX8_spread_0, uX8_spread_0, bX8_spread_19, uX8_spread_19, bX8_spread_20, uX8_spread_20, bX8_spread_25, uX8_spread_25, bX8_spread_45, uX8_spread_45, bX8_spread_93, uX8_spread_93, bX8_spread_99, uX8_spread_99, pvMk_t, pvMk_f, pvMk_n, pvRtG, pvRecv_r, pvUp_nl, pvUp_same, pvUp_ap, pvSt_ap, pvX_c, pvX_ms, pvX_mn, pvE_nil, pvEn_i, pvEn_r, pvEn_l, pvEn_0, pvEn_s, pvRt, pvRv, pvTh, pvKc, pvGo, pvTgt, Int.toNat_natCast, false_and, and_false, true_and, and_true, if_true, if_false, reduceIte, reduceCtorEq, forall_const, false_or, or_false, true_or, or_true, ne_eq, not_true_eq_false, not_false_eq_true, implies_true, false_implies, Nat.reduceAdd, Nat.reduceSub, Nat.reduceMul, Nat.reduceEqDiff, Nat.reduceLT, Nat.reduceLeDiff, Int.reduceAdd, Int.reduceSub, Int.reduceMul, Int.reduceNeg, Int.reduceToNat, Int.reduceLE, Int.reduceLT, Int.reduceEq, Int.reduceNe, and_self]
              (repeat' first | with_reducible apply And.intro | with_reducible intro _)
              all_goals first
                | omega
                | exact q9
        refine hc 20 _ _ _ fun _ _ => ?_
        simp only [pvSt1]
        simp only [C_X7_later, pvE_iload_n2, pvLI_s, pvLd, pvE_sipush, pvE_invokestatic (h0 := eX8_49), pvC1_s, pvC2_s, pvAf_v, pvAf_x, pvPop, pvCs, pvCat, pvPush, aX8_spread_49, pvE_if_eq, pvE_aload_n0, pvLA_s, pvE_getfield, pvGf_0, pvGf_1, pvGf_2, fX8_13, pvSh_0, pvSh_1, pvSh_2, pvSh_3, pvSh_4, pvSh_5, pvSh_6, pvSh_7, pvSh_8, pvSh_9, pvSh_10, pvSh_11, pvSh_12, pvSh_13, pvSh_14, pvSh_15, pvSh_16, pvSh_17, pvSh_18, pvSh_19, pvSh_20, pvSh_21, pvSh_22, pvSh_23, pvSh_24, pvSh_25, pvSh_26, pvSh_27, pvSh_28, pvSh_29, pvSh_30, pvSh_31, pvSh_32, pvSh_33, pvSh_34, pvSh_35, pvSh_36, pvSh_37, pvSh_38, pvRf_0_0, pvRf_0_1, pvRf_0_2, pvRf_0_3, pvRf_0_4, pvRf_0_5, pvRf_0_6, pvRf_0_7, pvRf_0_8, pvRf_0_9, pvRf_0_10, pvRf_1_0, pvRf_3_0, pvRf_5_0, pvRf_5_1, pvRf_5_2, pvRf_9_0, pvRf_9_1, pvRf_9_2, pvRf_13_0, pvRf_13_1, pvRf_13_2, pvRf_17_0, pvRf_17_2, pvRf_20_0, pvRf_20_1, pvRf_20_2, pvRf_24_0, pvRf_24_1, pvRf_24_2, pvRf_28_0, pvRf_28_1, pvRf_28_2, pvRf_28_3, pvRf_33_0, pvRf_33_1, pvRf_36_0, pvRf_36_1, pvE_laload, pvAL, pvE_goto, pvE_lconst0, pvE_lstore, pvS2, List.length_cons, List.length_nil, pvClr_i, pvClr_r, pvClr_l, pvClr_d, pvClr_f, pvClr_n, pvE_iconst, pvE_istore, pvS1, pvE_iload, pvE_iload_n3, pvE_icmp_gt, pvE_bipush, pvE_idiv, pvE_invokestatic (h0 := eX8_53), aX8_spread_53, pvE_icmp_ge, pvE_aload_n1, pvE_irem, pvE_invokevirtual, aX8_spread_57, fX8_17, pvE_invokestatic (h0 := eX8_61), aX8_spread_61, pvE_imul, pvE_iadd, pvE_lload, pvLL_s, pvE_invokestatic (h0 := eX8_28), aX8_spread_28, pvE_iinc, pvIc_s, pvE_return, bX8_spread_0, uX8_spread_0, bX8_spread_19, uX8_spread_19, bX8_spread_20, uX8_spread_20, bX8_spread_25, uX8_spread_25, bX8_spread_45, uX8_spread_45, bX8_spread_93, uX8_spread_93, bX8_spread_99, uX8_spread_99, pvMk_t, pvMk_f, pvMk_n, pvRtG, pvRecv_r, pvUp_nl, pvUp_same, pvUp_ap, pvSt_ap, pvX_c, pvX_ms, pvX_mn, pvE_nil, pvEn_i, pvEn_r, pvEn_l, pvEn_0, pvEn_s, pvRt, pvRv, pvTh, pvKc, pvGo, pvTgt, Int.toNat_natCast, false_and, and_false, true_and, and_true, if_true, if_false, reduceIte, reduceCtorEq, forall_const, false_or, or_false, true_or, or_true, ne_eq, not_true_eq_false, not_false_eq_true, implies_true, false_implies, Nat.reduceAdd, Nat.reduceSub, Nat.reduceMul, Nat.reduceEqDiff, Nat.reduceLT, Nat.reduceLeDiff, Int.reduceAdd, Int.reduceSub, Int.reduceMul, Int.reduceNeg, Int.reduceToNat, Int.reduceLE, Int.reduceLT, Int.reduceEq, Int.reduceNe, and_self]
        by_cases hdl : l < d
        · have q9 := h2 z' f1 (fun W => by rw [o1 W, show d = l + 1 by omega]) o2
          (repeat' first | with_reducible apply And.intro | with_reducible intro _)
          all_goals first
            | omega
            | exact q9
        · have q9 := inner (by omega) 3 0 z' rfl f1 (fun W => by rw [o1 W]; simp) o2
          (repeat' first | with_reducible apply And.intro | with_reducible intro _)
          all_goals first
            | omega
            | exact q9
    refine hc 20 _ _ _ fun _ _ => ?_
    have q9 := outer (l + 1) 0 z (by omega) frF_0 (fun W => by simp [sdK]) (fun _ h => h)
    simp only [pvSt1]
    simp only [C_X9_isIndex, ew, pvE_iload_n2, pvLI_s, pvLd, pvE_sipush, pvE_invokestatic (h0 := eX8_49), pvC1_s, pvC2_s, pvAf_v, pvAf_x, pvPop, pvCs, pvCat, pvPush, aX8_spread_49, pvE_if_eq, pvE_aload_n0, pvLA_s, pvE_getfield, pvGf_0, pvGf_1, pvGf_2, fX8_13, pvSh_0, pvSh_1, pvSh_2, pvSh_3, pvSh_4, pvSh_5, pvSh_6, pvSh_7, pvSh_8, pvSh_9, pvSh_10, pvSh_11, pvSh_12, pvSh_13, pvSh_14, pvSh_15, pvSh_16, pvSh_17, pvSh_18, pvSh_19, pvSh_20, pvSh_21, pvSh_22, pvSh_23, pvSh_24, pvSh_25, pvSh_26, pvSh_27, pvSh_28, pvSh_29, pvSh_30, pvSh_31, pvSh_32, pvSh_33, pvSh_34, pvSh_35, pvSh_36, pvSh_37, pvSh_38, pvRf_0_0, pvRf_0_1, pvRf_0_2, pvRf_0_3, pvRf_0_4, pvRf_0_5, pvRf_0_6, pvRf_0_7, pvRf_0_8, pvRf_0_9, pvRf_0_10, pvRf_1_0, pvRf_3_0, pvRf_5_0, pvRf_5_1, pvRf_5_2, pvRf_9_0, pvRf_9_1, pvRf_9_2, pvRf_13_0, pvRf_13_1, pvRf_13_2, pvRf_17_0, pvRf_17_2, pvRf_20_0, pvRf_20_1, pvRf_20_2, pvRf_24_0, pvRf_24_1, pvRf_24_2, pvRf_28_0, pvRf_28_1, pvRf_28_2, pvRf_28_3, pvRf_33_0, pvRf_33_1, pvRf_36_0, pvRf_36_1, pvE_laload, pvAL, pvE_goto, pvE_lconst0, pvE_lstore, pvS2, List.length_cons, List.length_nil, pvClr_i, pvClr_r, pvClr_l, pvClr_d, pvClr_f, pvClr_n, pvE_iconst, pvE_istore, pvS1, pvE_iload, pvE_iload_n3, pvE_icmp_gt, pvE_bipush, pvE_idiv, pvE_invokestatic (h0 := eX8_53), aX8_spread_53, pvE_icmp_ge, pvE_aload_n1, pvE_irem, pvE_invokevirtual, aX8_spread_57, fX8_17, pvE_invokestatic (h0 := eX8_61), aX8_spread_61, pvE_imul, pvE_iadd, pvE_lload, pvLL_s, pvE_invokestatic (h0 := eX8_28), aX8_spread_28, pvE_iinc, pvIc_s, pvE_return, bX8_spread_0, uX8_spread_0, bX8_spread_19, uX8_spread_19, bX8_spread_20, uX8_spread_20, bX8_spread_25, uX8_spread_25, bX8_spread_45, uX8_spread_45, bX8_spread_93, uX8_spread_93, bX8_spread_99, uX8_spread_99, pvMk_t, pvMk_f, pvMk_n, pvRtG, pvRecv_r, pvUp_nl, pvUp_same, pvUp_ap, pvSt_ap, pvX_c, pvX_ms, pvX_mn, pvE_nil, pvEn_i, pvEn_r, pvEn_l, pvEn_0, pvEn_s, pvRt, pvRv, pvTh, pvKc, pvGo, pvTgt, Int.toNat_natCast, false_and, and_false, true_and, and_true, if_true, if_false, reduceIte, reduceCtorEq, forall_const, false_or, or_false, true_or, or_true, ne_eq, not_true_eq_false, not_false_eq_true, implies_true, false_implies, Nat.reduceAdd, Nat.reduceSub, Nat.reduceMul, Nat.reduceEqDiff, Nat.reduceLT, Nat.reduceLeDiff, Int.reduceAdd, Int.reduceSub, Int.reduceMul, Int.reduceNeg, Int.reduceToNat, Int.reduceLE, Int.reduceLT, Int.reduceEq, Int.reduceNe, and_self]
    (repeat' first | with_reducible apply And.intro | with_reducible intro _)
    all_goals first
      | omega
      | exact q9
  · exact h.elim

