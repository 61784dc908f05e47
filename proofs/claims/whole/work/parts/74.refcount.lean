/-! accepted words: the reference -/
theorem smR_on (k : Nat) : ∀ n : Int, 0 ≤ n → n < smR k → ∃ v : Nat, v < k ∧ okB (v : Int) = true ∧ smR v = n := by
  induction k with
  | zero => intro n h0 h; exact absurd (show n < 0 from h) (by omega)
  | succ k ih =>
    intro n h0 h
    by_cases hn : n < smR k
    · obtain ⟨v, a, b, c⟩ := ih n h0 hn
      exact ⟨v, by omega, b, c⟩
    · by_cases hb : okB (k : Int) = true
      · have e : smR (k + 1) = smR k + 1 := by simp only [smR]; rw [if_pos hb]
        exact ⟨k, by omega, hb, by omega⟩
      · have e : smR (k + 1) = smR k + 0 := by simp only [smR]; rw [if_neg hb]
        omega
/-- the value that the reference numbers n -/
noncomputable def smV (n : Int) : Nat := Classical.epsilon fun v : Nat => v < 216 ∧ okB (v : Int) = true ∧ smR v = n
theorem smV_r {n : Int} (h0 : 0 ≤ n) (h : n < 92) : smV n < 216 ∧ okB (smV n : Int) = true ∧ smR (smV n) = n := by
  have h2 : n < smR 216 := by rw [smR_216]; exact h
  exact Classical.epsilon_spec (smR_on 216 n h0 h2)
theorem smV_e {v : Nat} (hv : v < 216) (hb : okB (v : Int) = true) : smV (smR v) = v := by
  have h := smR_r hv hb
  obtain ⟨a, b, c⟩ := smV_r h.1 h.2
  exact smR_inj a hv b hb c
theorem okV_B {v : Int} (h : okV v) : v.toNat < 216 ∧ okB ((v.toNat : Nat) : Int) = true ∧ ((v.toNat : Nat) : Int) = v := by
  have e : ((v.toNat : Nat) : Int) = v := Int.toNat_of_nonneg h.1.1
  exact ⟨by have := h.1.2; omega, by rw [e, okB_t]; exact h.2, e⟩
theorem okB_V {v : Nat} (hv : v < 216) (hb : okB (v : Int) = true) : okV (v : Int) := ⟨by omega, okB_t.mp hb⟩
/-- the place of the class that the reference's place stands for -/
noncomputable def plX (y : Int) : Int := 16 * (smV (y / 16) : Int) + y % 16
theorem plX_r {y : Int} (hy : 0 ≤ y ∧ y < 1472) : 0 ≤ plX y ∧ plX y < 3456 ∧ plX y / 16 = smV (y / 16) ∧ plX y % 16 = y % 16 := by
  obtain ⟨a, _, _⟩ := smV_r (n := y / 16) (by omega) (by omega)
  unfold plX
  omega
theorem plX_e {v s : Int} (hv : okV v) (hs : 0 ≤ s ∧ s ≤ 15) : plX (16 * smR v.toNat + s) = 16 * v + s := by
  obtain ⟨a, b, c⟩ := okV_B hv
  have h := smR_r a b
  unfold plX
  rw [show (16 * smR v.toNat + s) / 16 = smR v.toNat by omega, smV_e a b]
  omega
def sdA (f : Int → Int → Int) (a : Int) : Nat → Int
  | 0 => 0
  | d + 1 => sdA f a d + f a (d : Nat)
theorem sdA_s (f : Int → Int → Int) (D : Nat) : sdK f D = sdA f 0 D + sdA f 1 D + sdA f 2 D := by
  induction D with
  | zero => rfl
  | succ D ih => simp only [sdK, sdA]; rw [ih]; omega
def C_X10_spreads : pvC
  | [.inr (.inr (.inl id)), .inl s, .inl y, .inl l], z, Q => id = 39 ∧ ∃ A : Aut, (A = autR (z.1 40) s ∧ (0 ≤ s ∧ s ≤ 1) ∧ WfA A ∧ ldP (z.1 48) s A ∧ smP z ∧ (0 ≤ y ∧ y < 1472) ∧ 0 ≤ l ∧ l ≤ 4) ∧
      ∀ z' : pvM, frF [] [57] z z' → (∀ W : Int → Int, smN (z'.2.1 57) (fun y => W (plX y)) 1472 = smN (z.2.1 57) (fun y => W (plX y)) 1472 + z.2.1 56 y.toNat * sdK (fun a d => W (nxW A (plX y) a d)) (l.toNat + 1)) → (0 ≤ z.2.1 56 y.toNat → (∀ i, i < 1472 → 0 ≤ z.2.1 57 i) → ∀ i, i < 1472 → 0 ≤ z'.2.1 57 i) → Q (.inl none) z'
  | _, _, _ => False
def bX10_spreads : Nat → List (Instr × Nat)
  | 0 => [(.aload_n 0, 1), (.iload_n 2, 1), (.bipush 16, 2), (.idiv, 1), (.invokevirtual 237, 3), (.istore 4, 2), (.iconst 0, 1), (.istore 5, 2)]
  | 13 => [(.iload 5, 2), (.iconst 3, 1), (.if_icmp .ge 76, 3), (.iconst 0, 1), (.istore 6, 2)]
  | 22 => [(.iload 6, 2), (.iload_n 3, 1), (.if_icmp .gt 61, 3), (.iload 4, 2), (.iload 6, 2), (.invokestatic 164, 3), (.istore 7, 2), (.aload_n 0, 1), (.getfield 66, 3), (.bipush 16, 2), (.aload_n 0, 1), (.getfield 51, 3), (.iload 7, 2), (.iload 5, 2), (.invokestatic 167, 3), (.iaload, 1), (.imul, 1), (.aload_n 0, 1), (.iload_n 1, 1), (.iload_n 2, 1), (.bipush 16, 2), (.irem, 1), (.iload 5, 2), (.iload 7, 2), (.invokevirtual 203, 3), (.iadd, 1), (.dup2, 1), (.laload, 1), (.aload_n 0, 1), (.getfield 63, 3), (.iload_n 2, 1), (.laload, 1), (.ladd, 1), (.lastore, 1), (.iinc 6 1, 3), (.goto (-61), 3)]
  | 86 => [(.iinc 5 1, 3), (.goto (-76), 3)]
  | 92 => [(.return_, 1)]
  | _ => []
def uX10_spreads : Nat → Option (List Bool)
  | 13 => some [true, true, true, true, true, true, false, false]
  | 22 => some [true, true, true, true, true, true, true, false]
  | _ => none
def aX10_spreads : pvCa
  | 164 => some (2, true, 0, 0, C_X10_passes)
  | 167 => some (2, true, 0, 0, C_X10_resets)
  | 203 => some (5, false, 9, 0, C_X10_steps)
  | 237 => some (2, false, 9, 0, C_X10_valueOf)
  | _ => none
theorem bX10_spreads_0 : bX10_spreads 0 = [(.aload_n 0, 1), (.iload_n 2, 1), (.bipush 16, 2), (.idiv, 1), (.invokevirtual 237, 3), (.istore 4, 2), (.iconst 0, 1), (.istore 5, 2)] := rfl
theorem uX10_spreads_0 : uX10_spreads 0 = none := rfl
theorem bX10_spreads_13 : bX10_spreads 13 = [(.iload 5, 2), (.iconst 3, 1), (.if_icmp .ge 76, 3), (.iconst 0, 1), (.istore 6, 2)] := rfl
theorem uX10_spreads_13 : uX10_spreads 13 = some [true, true, true, true, true, true, false, false] := rfl
theorem bX10_spreads_22 : bX10_spreads 22 = [(.iload 6, 2), (.iload_n 3, 1), (.if_icmp .gt 61, 3), (.iload 4, 2), (.iload 6, 2), (.invokestatic 164, 3), (.istore 7, 2), (.aload_n 0, 1), (.getfield 66, 3), (.bipush 16, 2), (.aload_n 0, 1), (.getfield 51, 3), (.iload 7, 2), (.iload 5, 2), (.invokestatic 167, 3), (.iaload, 1), (.imul, 1), (.aload_n 0, 1), (.iload_n 1, 1), (.iload_n 2, 1), (.bipush 16, 2), (.irem, 1), (.iload 5, 2), (.iload 7, 2), (.invokevirtual 203, 3), (.iadd, 1), (.dup2, 1), (.laload, 1), (.aload_n 0, 1), (.getfield 63, 3), (.iload_n 2, 1), (.laload, 1), (.ladd, 1), (.lastore, 1), (.iinc 6 1, 3), (.goto (-61), 3)] := rfl
theorem uX10_spreads_22 : uX10_spreads 22 = some [true, true, true, true, true, true, true, false] := rfl
theorem bX10_spreads_86 : bX10_spreads 86 = [(.iinc 5 1, 3), (.goto (-76), 3)] := rfl
theorem uX10_spreads_86 : uX10_spreads 86 = none := rfl
theorem bX10_spreads_92 : bX10_spreads 92 = [(.return_, 1)] := rfl
theorem uX10_spreads_92 : uX10_spreads 92 = none := rfl
theorem aX10_spreads_164 : aX10_spreads 164 = some (2, true, 0, 0, C_X10_passes) := rfl
theorem aX10_spreads_167 : aX10_spreads 167 = some (2, true, 0, 0, C_X10_resets) := rfl
theorem aX10_spreads_203 : aX10_spreads 203 = some (5, false, 9, 0, C_X10_steps) := rfl
theorem aX10_spreads_237 : aX10_spreads 237 = some (2, false, 9, 0, C_X10_valueOf) := rfl
def mX10_spreads : Room := { frames := 2, cells := 1, slots := 6, locals := 42 }
set_option maxRecDepth 100000 in
set_option maxHeartbeats 4000000 in
theorem okX10_spreads : pvOkM fX10 aX10_spreads kX10 eX10 none bX10_spreads uX10_spreads 8 C_X10_spreads := by
  intro Q SW hc as z h hS hz
  unfold C_X10_spreads at h
  split at h
  · rename_i id s y l
    obtain ⟨rfl, A, ⟨eA, hs, wA, hld, hsm, hy, hl⟩, h2⟩ := h
    obtain ⟨l, rfl⟩ : ∃ n : Nat, l = n := ⟨l.toNat, by omega⟩
    rw [Int.toNat_natCast] at h2
    obtain ⟨w, ew⟩ : ∃ w, z.2.1 56 y.toNat = w := ⟨_, rfl⟩
    rw [ew] at h2
    obtain ⟨p1, p2, p3, p4⟩ := plX_r hy
    obtain ⟨v1, v2, v3⟩ := smV_r (n := y / 16) (by omega) (by omega)
    obtain ⟨v, ev⟩ : ∃ v : Nat, smV (y / 16) = v := ⟨_, rfl⟩
    rw [ev] at v1 v2 v3 p3
    have vok := okB_V v1 v2
    refine ⟨Nat.le_of_ble_eq_true rfl, ?_⟩
    have outer : ∀ (ma a : Nat) (z' : pvM), a + ma = 3 → frF [] [57] z z' → (∀ W : Int → Int, smN (z'.2.1 57) (fun y => W (plX y)) 1472 = smN (z.2.1 57) (fun y => W (plX y)) 1472 + w * ((if 0 < a then sdA (fun a d => W (nxW A (plX y) a d)) 0 (l + 1) else 0) + (if 1 < a then sdA (fun a d => W (nxW A (plX y) a d)) 1 (l + 1) else 0) + (if 2 < a then sdA (fun a d => W (nxW A (plX y) a d)) 2 (l + 1) else 0))) → (0 ≤ w → (∀ i, i < 1472 → 0 ≤ z.2.1 57 i) → ∀ i, i < 1472 → 0 ≤ z'.2.1 57 i) →
        SW 13 [some (vR 39), some (vI s), some (vI y), some (vI (l : Int)), some (vI (v : Int)), some (vI (a : Int)), none, none] z' := by
      intro ma
      induction ma using Nat.strongRecOn with
      | _ ma iha =>
        intro a z' ha f1 o1 o2
        have inner : a ≤ 2 → ∀ (md d : Nat) (z' : pvM), d + md = l + 1 → frF [] [57] z z' → (∀ W : Int → Int, smN (z'.2.1 57) (fun y => W (plX y)) 1472 = smN (z.2.1 57) (fun y => W (plX y)) 1472 + w * ((if 0 < a then sdA (fun a d => W (nxW A (plX y) a d)) 0 (l + 1) else 0) + (if 1 < a then sdA (fun a d => W (nxW A (plX y) a d)) 1 (l + 1) else 0) + sdA (fun a d => W (nxW A (plX y) a d)) a d)) → (0 ≤ w → (∀ i, i < 1472 → 0 ≤ z.2.1 57 i) → ∀ i, i < 1472 → 0 ≤ z'.2.1 57 i) →
            SW 22 [some (vR 39), some (vI s), some (vI y), some (vI (l : Int)), some (vI (v : Int)), some (vI (a : Int)), some (vI (d : Int)), none] z' := by
          intro ha2 md
          induction md using Nat.strongRecOn with
          | _ md ihd =>
            intro d z' hd f1 o1 o2
            refine hc 20 _ _ _ fun _ _ => ?_
            simp only [pvSt1]
            by_cases hdl : l < d
            · have ed : d = l + 1 := by omega
              subst ed
              have q9 := iha (ma - 1) (by omega) (a + 1) z' (by omega) f1 (fun W => by
                rw [o1 W]
                congr 2
                rcases (show a = 0 ∨ a = 1 ∨ a = 2 by omega) with rfl | rfl | rfl <;> simp) o2
              simp only [pvE_aload_n0, pvLA_s, pvLd, pvE_iload_n2, pvLI_s, pvE_bipush, pvE_idiv, pvE_invokevirtual, pvC1_s, pvC2_s, pvAf_v, pvAf_x, pvPop, pvCs, pvCat, pvPush, aX10_spreads_237, pvSh_0, pvSh_1, pvSh_2, pvSh_3, pvSh_4, pvSh_5, pvSh_6, pvSh_7, pvSh_8, pvSh_9, pvSh_10, pvSh_11, pvSh_12, pvSh_13, pvSh_14, pvSh_15, pvSh_16, pvSh_17, pvSh_18, pvSh_19, pvSh_20, pvSh_21, pvSh_22, pvSh_23, pvSh_24, pvSh_25, pvSh_26, pvSh_27, pvSh_28, pvSh_29, pvSh_30, pvSh_31, pvSh_32, pvSh_33, pvSh_34, pvSh_35, pvSh_36, pvSh_37, pvSh_38, pvSh_39, pvSh_40, pvSh_41, pvSh_42, pvSh_43, pvSh_44, pvSh_45, pvSh_46, pvSh_47, pvSh_48, pvSh_49, pvSh_50, pvSh_51, pvSh_52, pvSh_53, pvSh_54, pvSh_55, pvSh_56, pvSh_57, pvSh_58, pvSh_59, pvE_istore, pvS1, List.length_cons, List.length_nil, pvClr_i, pvClr_r, pvClr_l, pvClr_d, pvClr_f, pvClr_n, pvE_iconst, pvE_iload, pvE_icmp_ge, pvE_iload_n3, pvE_icmp_gt, pvE_invokestatic (h0 := eX10_164), aX10_spreads_164, pvE_getfield, pvGf_0, pvGf_1, pvGf_2, fX10_66, pvRf_0_0, pvRf_0_1, pvRf_0_2, pvRf_0_3, pvRf_0_4, pvRf_0_5, pvRf_0_6, pvRf_0_7, pvRf_0_8, pvRf_0_9, pvRf_0_10, pvRf_1_0, pvRf_3_0, pvRf_5_0, pvRf_5_1, pvRf_5_2, pvRf_9_0, pvRf_9_1, pvRf_9_2, pvRf_13_0, pvRf_13_1, pvRf_13_2, pvRf_17_0, pvRf_17_2, pvRf_20_0, pvRf_20_1, pvRf_20_2, pvRf_24_0, pvRf_24_1, pvRf_24_2, pvRf_28_0, pvRf_28_1, pvRf_28_2, pvRf_28_3, pvRf_33_0, pvRf_33_1, pvRf_36_0, pvRf_36_1, pvRf_39_0, pvRf_39_1, pvRf_39_2, pvRf_39_5, pvRf_39_6, pvRf_39_9, pvRf_39_13, pvRf_39_15, pvRf_39_16, pvRf_39_17, pvRf_39_19, pvRf_39_20, pvRf_39_22, pvRf_39_23, pvRf_39_24, pvRf_39_25, pvRf_39_29, pvRf_39_30, fX10_51, pvE_invokestatic (h0 := eX10_167), aX10_spreads_167, pvE_iaload, pvAI, pvE_imul, pvE_iload_n1, pvE_irem, aX10_spreads_203, pvE_iadd, pvE_dup2, pvE_laload, pvAL, fX10_63, pvE_ladd, pvE_lastore, pvE_iinc, pvIc_s, pvE_goto, pvE_return, bX10_spreads_0, uX10_spreads_0, bX10_spreads_13, uX10_spreads_13, bX10_spreads_22, uX10_spreads_22, bX10_spreads_86, uX10_spreads_86, bX10_spreads_92, uX10_spreads_92, pvMk_t, pvMk_f, pvMk_n, pvRecv_r, pvUp_nl, pvUp_same, pvUp_ap, pvSt_ap, pvX_c, pvX_ms, pvX_mn, pvE_nil, pvEn_i, pvEn_r, pvEn_l, pvEn_0, pvEn_s, pvRt, pvRv, pvTh, pvKc, pvGo, pvTgt, Int.toNat_natCast, false_and, and_false, true_and, and_true, if_true, if_false, reduceIte, reduceCtorEq, forall_const, false_or, or_false, true_or, or_true, ne_eq, not_true_eq_false, not_false_eq_true, implies_true, false_implies, Nat.reduceAdd, Nat.reduceSub, Nat.reduceMul, Nat.reduceEqDiff, Nat.reduceLT, Nat.reduceLeDiff, Int.reduceAdd, Int.reduceSub, Int.reduceMul, Int.reduceNeg, Int.reduceToNat, Int.reduceLE, Int.reduceLT, Int.reduceEq, Int.reduceNe, and_self]
              (repeat' first | with_reducible apply And.intro | with_reducible intro _)
              all_goals first
                | omega
                | exact q9
            · have e52 : z'.1 52 = z.1 52 := f1.1 52 (by simp)
              have e48 : z'.1 48 = z.1 48 := f1.1 48 (by simp)
              have e40 : z'.1 40 = z.1 40 := f1.1 40 (by simp)
              have e56 : z'.2.1 56 = z.2.1 56 := f1.2.1 56 (by simp)
              have hv : 0 ≤ psF (v : Int) (d : Int) ∧ psF (v : Int) (d : Int) < 216 := psF_r (by omega)
              obtain ⟨pw, epw⟩ : ∃ x, psF (v : Int) (d : Int) = x := ⟨_, rfl⟩
              rw [epw] at hv
              have hrs := rs_ok (w := pw) (a := (a : Int)) hv (by omega)
              obtain ⟨r1, r2, r3⟩ := okV_B hrs
              have r4 := smR_r r1 r2
              have r5 : z'.1 52 (rsF pw (a : Int)).toNat = smR (rsF pw (a : Int)).toNat := by
                rw [e52, hsm _ r1, if_pos r2]
              have hsb := sbF_r wA (y % 16) (a : Int) pw
              have enx : nxW A (plX y) a d = 16 * rsF pw (a : Int) + sbF A (y % 16) (a : Int) pw := by
                unfold nxW
                rw [p3, p4, epw]
              have wA' : WfA (autR (z'.1 40) s) := by rw [e40, ← eA]; exact wA
              have hld' : ldP (z'.1 48) s (autR (z'.1 40) s) := by rw [e40, ← eA, e48]; exact hld
              have eA' : autR (z'.1 40) s = A := by rw [e40, ← eA]
              have hpl := plX_e hrs (s := sbF A (y % 16) (a : Int) pw) hsb
              rw [← enx] at hpl
              obtain ⟨j, ej⟩ : ∃ j, 16 * smR (rsF pw (a : Int)).toNat + sbF A (y % 16) (a : Int) pw = j := ⟨_, rfl⟩
              have hj : 0 ≤ j ∧ j < 1472 := by omega
              rw [ej] at hpl
              have q9 := ihd (md - 1) (by omega) (d + 1) (z'.1, pvUp z'.2.1 57 j.toNat (z'.2.1 57 j.toNat + w), z'.2.2) (by omega) (by (repeat' first | assumption | exact frF_0 | (refine frF_u ?_ (by decide)) | (refine frF_s ?_ (by decide)) | (refine frF_l ?_ (by decide)))) (fun W => by
                have hu := smN_u (c := z'.2.1 57) (W := fun y => W (plX y)) (j := j.toNat) (x := w) 1472
                rw [if_pos (by omega), show ((j.toNat : Nat) : Int) = j by omega, o1 W, hpl] at hu
                have hfe : (pvUp z'.2.1 57 j.toNat (z'.2.1 57 j.toNat + w)) 57 = (fun k => if k = j.toNat then z'.2.1 57 j.toNat + w else z'.2.1 57 k) := by
                  funext k
                  simp only [pvUp_ap, true_and]
                show smN ((pvUp z'.2.1 57 j.toNat (z'.2.1 57 j.toNat + w)) 57) _ 1472 = _
                rw [hfe, hu, Int.add_assoc, ← Int.mul_add]
                congr 2
                simp only [sdA]
                rw [Int.add_assoc]) (fun hw0 h57 i hi => by
                have := o2 hw0 h57
                show 0 ≤ (pvUp z'.2.1 57 j.toNat (z'.2.1 57 j.toNat + w)) 57 i
                simp only [pvUp_ap, true_and]
                split
                · have := this j.toNat (by omega); omega
                · exact this i hi)
              simp only [C_X10_passes, C_X10_resets, C_X10_steps, epw, r5, eA', ej, e56, ew, pvE_aload_n0, pvLA_s, pvLd, pvE_iload_n2, pvLI_s, pvE_bipush, pvE_idiv, pvE_invokevirtual, pvC1_s, pvC2_s, pvAf_v, pvAf_x, pvPop, pvCs, pvCat, pvPush, aX10_spreads_237, pvSh_0, pvSh_1, pvSh_2, pvSh_3, pvSh_4, pvSh_5, pvSh_6, pvSh_7, pvSh_8, pvSh_9, pvSh_10, pvSh_11, pvSh_12, pvSh_13, pvSh_14, pvSh_15, pvSh_16, pvSh_17, pvSh_18, pvSh_19, pvSh_20, pvSh_21, pvSh_22, pvSh_23, pvSh_24, pvSh_25, pvSh_26, pvSh_27, pvSh_28, pvSh_29, pvSh_30, pvSh_31, pvSh_32, pvSh_33, pvSh_34, pvSh_35, pvSh_36, pvSh_37, pvSh_38, pvSh_39, pvSh_40, pvSh_41, pvSh_42, pvSh_43, pvSh_44, pvSh_45, pvSh_46, pvSh_47, pvSh_48, pvSh_49, pvSh_50, pvSh_51, pvSh_52, pvSh_53, pvSh_54, pvSh_55, pvSh_56, pvSh_57, pvSh_58, pvSh_59, pvE_istore, pvS1, List.length_cons, List.length_nil, pvClr_i, pvClr_r, pvClr_l, pvClr_d, pvClr_f, pvClr_n, pvE_iconst, pvE_iload, pvE_icmp_ge, pvE_iload_n3, pvE_icmp_gt, pvE_invokestatic (h0 := eX10_164), aX10_spreads_164, pvE_getfield, pvGf_0, pvGf_1, pvGf_2, fX10_66, pvRf_0_0, pvRf_0_1, pvRf_0_2, pvRf_0_3, pvRf_0_4, pvRf_0_5, pvRf_0_6, pvRf_0_7, pvRf_0_8, pvRf_0_9, pvRf_0_10, pvRf_1_0, pvRf_3_0, pvRf_5_0, pvRf_5_1, pvRf_5_2, pvRf_9_0, pvRf_9_1, pvRf_9_2, pvRf_13_0, pvRf_13_1, pvRf_13_2, pvRf_17_0, pvRf_17_2, pvRf_20_0, pvRf_20_1, pvRf_20_2, pvRf_24_0, pvRf_24_1, pvRf_24_2, pvRf_28_0, pvRf_28_1, pvRf_28_2, pvRf_28_3, pvRf_33_0, pvRf_33_1, pvRf_36_0, pvRf_36_1, pvRf_39_0, pvRf_39_1, pvRf_39_2, pvRf_39_5, pvRf_39_6, pvRf_39_9, pvRf_39_13, pvRf_39_15, pvRf_39_16, pvRf_39_17, pvRf_39_19, pvRf_39_20, pvRf_39_22, pvRf_39_23, pvRf_39_24, pvRf_39_25, pvRf_39_29, pvRf_39_30, fX10_51, pvE_invokestatic (h0 := eX10_167), aX10_spreads_167, pvE_iaload, pvAI, pvE_imul, pvE_iload_n1, pvE_irem, aX10_spreads_203, pvE_iadd, pvE_dup2, pvE_laload, pvAL, fX10_63, pvE_ladd, pvE_lastore, pvE_iinc, pvIc_s, pvE_goto, pvE_return, bX10_spreads_0, uX10_spreads_0, bX10_spreads_13, uX10_spreads_13, bX10_spreads_22, uX10_spreads_22, bX10_spreads_86, uX10_spreads_86, bX10_spreads_92, uX10_spreads_92, pvMk_t, pvMk_f, pvMk_n, pvRecv_r, pvUp_nl, pvUp_same, pvUp_ap, pvSt_ap, pvX_c, pvX_ms, pvX_mn, pvE_nil, pvEn_i, pvEn_r, pvEn_l, pvEn_0, pvEn_s, pvRt, pvRv, pvTh, pvKc, pvGo, pvTgt, Int.toNat_natCast, false_and, and_false, true_and, and_true, if_true, if_false, reduceIte, reduceCtorEq, forall_const, false_or, or_false, true_or, or_true, ne_eq, not_true_eq_false, not_false_eq_true, implies_true, false_implies, Nat.reduceAdd, Nat.reduceSub, Nat.reduceMul, Nat.reduceEqDiff, Nat.reduceLT, Nat.reduceLeDiff, Int.reduceAdd, Int.reduceSub, Int.reduceMul, Int.reduceNeg, Int.reduceToNat, Int.reduceLE, Int.reduceLT, Int.reduceEq, Int.reduceNe, and_self]
              (repeat' first | with_reducible apply And.intro | with_reducible intro _)
              all_goals first
                | omega
                | exact wA'
                | (rw [← eA']; exact hld')
                | exact wA
                | exact q9
        refine hc 20 _ _ _ fun _ _ => ?_
        simp only [pvSt1]
        simp only [pvE_aload_n0, pvLA_s, pvLd, pvE_iload_n2, pvLI_s, pvE_bipush, pvE_idiv, pvE_invokevirtual, pvC1_s, pvC2_s, pvAf_v, pvAf_x, pvPop, pvCs, pvCat, pvPush, aX10_spreads_237, pvSh_0, pvSh_1, pvSh_2, pvSh_3, pvSh_4, pvSh_5, pvSh_6, pvSh_7, pvSh_8, pvSh_9, pvSh_10, pvSh_11, pvSh_12, pvSh_13, pvSh_14, pvSh_15, pvSh_16, pvSh_17, pvSh_18, pvSh_19, pvSh_20, pvSh_21, pvSh_22, pvSh_23, pvSh_24, pvSh_25, pvSh_26, pvSh_27, pvSh_28, pvSh_29, pvSh_30, pvSh_31, pvSh_32, pvSh_33, pvSh_34, pvSh_35, pvSh_36, pvSh_37, pvSh_38, pvSh_39, pvSh_40, pvSh_41, pvSh_42, pvSh_43, pvSh_44, pvSh_45, pvSh_46, pvSh_47, pvSh_48, pvSh_49, pvSh_50, pvSh_51, pvSh_52, pvSh_53, pvSh_54, pvSh_55, pvSh_56, pvSh_57, pvSh_58, pvSh_59, pvE_istore, pvS1, List.length_cons, List.length_nil, pvClr_i, pvClr_r, pvClr_l, pvClr_d, pvClr_f, pvClr_n, pvE_iconst, pvE_iload, pvE_icmp_ge, pvE_iload_n3, pvE_icmp_gt, pvE_invokestatic (h0 := eX10_164), aX10_spreads_164, pvE_getfield, pvGf_0, pvGf_1, pvGf_2, fX10_66, pvRf_0_0, pvRf_0_1, pvRf_0_2, pvRf_0_3, pvRf_0_4, pvRf_0_5, pvRf_0_6, pvRf_0_7, pvRf_0_8, pvRf_0_9, pvRf_0_10, pvRf_1_0, pvRf_3_0, pvRf_5_0, pvRf_5_1, pvRf_5_2, pvRf_9_0, pvRf_9_1, pvRf_9_2, pvRf_13_0, pvRf_13_1, pvRf_13_2, pvRf_17_0, pvRf_17_2, pvRf_20_0, pvRf_20_1, pvRf_20_2, pvRf_24_0, pvRf_24_1, pvRf_24_2, pvRf_28_0, pvRf_28_1, pvRf_28_2, pvRf_28_3, pvRf_33_0, pvRf_33_1, pvRf_36_0, pvRf_36_1, pvRf_39_0, pvRf_39_1, pvRf_39_2, pvRf_39_5, pvRf_39_6, pvRf_39_9, pvRf_39_13, pvRf_39_15, pvRf_39_16, pvRf_39_17, pvRf_39_19, pvRf_39_20, pvRf_39_22, pvRf_39_23, pvRf_39_24, pvRf_39_25, pvRf_39_29, pvRf_39_30, fX10_51, pvE_invokestatic (h0 := eX10_167), aX10_spreads_167, pvE_iaload, pvAI, pvE_imul, pvE_iload_n1, pvE_irem, aX10_spreads_203, pvE_iadd, pvE_dup2, pvE_laload, pvAL, fX10_63, pvE_ladd, pvE_lastore, pvE_iinc, pvIc_s, pvE_goto, pvE_return, bX10_spreads_0, uX10_spreads_0, bX10_spreads_13, uX10_spreads_13, bX10_spreads_22, uX10_spreads_22, bX10_spreads_86, uX10_spreads_86, bX10_spreads_92, uX10_spreads_92, pvMk_t, pvMk_f, pvMk_n, pvRecv_r, pvUp_nl, pvUp_same, pvUp_ap, pvSt_ap, pvX_c, pvX_ms, pvX_mn, pvE_nil, pvEn_i, pvEn_r, pvEn_l, pvEn_0, pvEn_s, pvRt, pvRv, pvTh, pvKc, pvGo, pvTgt, Int.toNat_natCast, false_and, and_false, true_and, and_true, if_true, if_false, reduceIte, reduceCtorEq, forall_const, false_or, or_false, true_or, or_true, ne_eq, not_true_eq_false, not_false_eq_true, implies_true, false_implies, Nat.reduceAdd, Nat.reduceSub, Nat.reduceMul, Nat.reduceEqDiff, Nat.reduceLT, Nat.reduceLeDiff, Int.reduceAdd, Int.reduceSub, Int.reduceMul, Int.reduceNeg, Int.reduceToNat, Int.reduceLE, Int.reduceLT, Int.reduceEq, Int.reduceNe, and_self]
        by_cases ha3 : 3 ≤ a
        · have q9 := h2 z' f1 (fun W => by rw [o1 W, if_pos (by omega), if_pos (by omega), if_pos (by omega), sdA_s]) o2
          (repeat' first | with_reducible apply And.intro | with_reducible intro _)
          all_goals first
            | omega
            | exact q9
        · have q9 := inner (by omega) (l + 1) 0 z' (by omega) f1 (fun W => by
            rw [o1 W]
            congr 2
            simp only [sdA]
            rw [if_neg (show ¬ 2 < a by omega)]) o2
          (repeat' first | with_reducible apply And.intro | with_reducible intro _)
          all_goals first
            | omega
            | exact q9
    refine hc 20 _ _ _ fun _ _ => ?_
    simp only [pvSt1]
    have q9 := outer 3 0 z rfl frF_0 (fun W => by simp) (fun _ h => h)
    have q8 : ∃ c : Int, (smP z ∧ okQ c ∧ y / 16 = ndC c / 256) ∧ c / 256 = (v : Int) := by
      have e1 : (256 * (v : Int)) / 256 = v := by omega
      refine ⟨256 * v, ⟨hsm, ⟨by omega, by rw [e1]; exact vok⟩, ?_⟩, e1⟩
      unfold ndC
      rw [e1, Int.toNat_natCast, v3]
      omega
    obtain ⟨c, q8, ec⟩ := q8
    simp only [C_X10_valueOf, pvE_aload_n0, pvLA_s, pvLd, pvE_iload_n2, pvLI_s, pvE_bipush, pvE_idiv, pvE_invokevirtual, pvC1_s, pvC2_s, pvAf_v, pvAf_x, pvPop, pvCs, pvCat, pvPush, aX10_spreads_237, pvSh_0, pvSh_1, pvSh_2, pvSh_3, pvSh_4, pvSh_5, pvSh_6, pvSh_7, pvSh_8, pvSh_9, pvSh_10, pvSh_11, pvSh_12, pvSh_13, pvSh_14, pvSh_15, pvSh_16, pvSh_17, pvSh_18, pvSh_19, pvSh_20, pvSh_21, pvSh_22, pvSh_23, pvSh_24, pvSh_25, pvSh_26, pvSh_27, pvSh_28, pvSh_29, pvSh_30, pvSh_31, pvSh_32, pvSh_33, pvSh_34, pvSh_35, pvSh_36, pvSh_37, pvSh_38, pvSh_39, pvSh_40, pvSh_41, pvSh_42, pvSh_43, pvSh_44, pvSh_45, pvSh_46, pvSh_47, pvSh_48, pvSh_49, pvSh_50, pvSh_51, pvSh_52, pvSh_53, pvSh_54, pvSh_55, pvSh_56, pvSh_57, pvSh_58, pvSh_59, pvE_istore, pvS1, List.length_cons, List.length_nil, pvClr_i, pvClr_r, pvClr_l, pvClr_d, pvClr_f, pvClr_n, pvE_iconst, pvE_iload, pvE_icmp_ge, pvE_iload_n3, pvE_icmp_gt, pvE_invokestatic (h0 := eX10_164), aX10_spreads_164, pvE_getfield, pvGf_0, pvGf_1, pvGf_2, fX10_66, pvRf_0_0, pvRf_0_1, pvRf_0_2, pvRf_0_3, pvRf_0_4, pvRf_0_5, pvRf_0_6, pvRf_0_7, pvRf_0_8, pvRf_0_9, pvRf_0_10, pvRf_1_0, pvRf_3_0, pvRf_5_0, pvRf_5_1, pvRf_5_2, pvRf_9_0, pvRf_9_1, pvRf_9_2, pvRf_13_0, pvRf_13_1, pvRf_13_2, pvRf_17_0, pvRf_17_2, pvRf_20_0, pvRf_20_1, pvRf_20_2, pvRf_24_0, pvRf_24_1, pvRf_24_2, pvRf_28_0, pvRf_28_1, pvRf_28_2, pvRf_28_3, pvRf_33_0, pvRf_33_1, pvRf_36_0, pvRf_36_1, pvRf_39_0, pvRf_39_1, pvRf_39_2, pvRf_39_5, pvRf_39_6, pvRf_39_9, pvRf_39_13, pvRf_39_15, pvRf_39_16, pvRf_39_17, pvRf_39_19, pvRf_39_20, pvRf_39_22, pvRf_39_23, pvRf_39_24, pvRf_39_25, pvRf_39_29, pvRf_39_30, fX10_51, pvE_invokestatic (h0 := eX10_167), aX10_spreads_167, pvE_iaload, pvAI, pvE_imul, pvE_iload_n1, pvE_irem, aX10_spreads_203, pvE_iadd, pvE_dup2, pvE_laload, pvAL, fX10_63, pvE_ladd, pvE_lastore, pvE_iinc, pvIc_s, pvE_goto, pvE_return, bX10_spreads_0, uX10_spreads_0, bX10_spreads_13, uX10_spreads_13, bX10_spreads_22, uX10_spreads_22, bX10_spreads_86, uX10_spreads_86, bX10_spreads_92, uX10_spreads_92, pvMk_t, pvMk_f, pvMk_n, pvRecv_r, pvUp_nl, pvUp_same, pvUp_ap, pvSt_ap, pvX_c, pvX_ms, pvX_mn, pvE_nil, pvEn_i, pvEn_r, pvEn_l, pvEn_0, pvEn_s, pvRt, pvRv, pvTh, pvKc, pvGo, pvTgt, Int.toNat_natCast, false_and, and_false, true_and, and_true, if_true, if_false, reduceIte, reduceCtorEq, forall_const, false_or, or_false, true_or, or_true, ne_eq, not_true_eq_false, not_false_eq_true, implies_true, false_implies, Nat.reduceAdd, Nat.reduceSub, Nat.reduceMul, Nat.reduceEqDiff, Nat.reduceLT, Nat.reduceLeDiff, Int.reduceAdd, Int.reduceSub, Int.reduceMul, Int.reduceNeg, Int.reduceToNat, Int.reduceLE, Int.reduceLT, Int.reduceEq, Int.reduceNe, and_self]
    (repeat' first | with_reducible apply And.intro | with_reducible intro _)
    all_goals first
      | omega
      | skip
    refine ⟨c, q8, ?_⟩
    rw [ec]
    exact ⟨by omega, q9⟩
  · exact h.elim
theorem smN_q {c : Nat → Int} {n k : Nat} (hk : k < 10) (h0 : ∀ i, i < n → 0 ≤ c i) (h1 : smN c (fun _ => 1) n ≤ 15 ^ k) : ∀ i, i < n → 0 ≤ c i ∧ c i ≤ 576650390625 := by
  have h2 : (15 : Int) ^ k ≤ 15 ^ 10 := by exact_mod_cast Nat.pow_le_pow_right (n := 15) (by decide) (by omega)
  have h3 : (15 : Int) ^ 10 = 576650390625 := by decide
  intro i hi
  have := (smN_le (c := c) n h0).2 i hi
  have := h0 i hi
  omega
theorem smN_one {c c' : Nat → Int} {W : Int → Int} {j n : Nat} (hj : j < n) (h0 : ∀ i, i < n → c i = 0) (h : ∀ i, c' i = if i = j then 1 else c i) : smN c' W n = W (j : Nat) := by
  have e : c' = fun k => if k = j then c j + 1 else c k := by
    funext k
    rw [h k, h0 j hj]
    rfl
  rw [e, smN_u, smN_0 n h0, if_pos hj]
  omega
def C_X10_counts : pvC
  | [.inr (.inr (.inl id)), .inl s, .inl e, .inl l], z, Q => id = 39 ∧ ((0 ≤ s ∧ s ≤ 1) ∧ (0 ≤ e ∧ e ≤ 10) ∧ (0 ≤ l ∧ l ≤ 4) ∧ (∀ s' : Int, 0 ≤ s' ∧ s' ≤ 1 → WfA (autR (z.1 40) s')) ∧ smP z) ∧
      ∀ z' : pvM, frF [39, 48] [56, 57] z z' → (∀ j, j ≠ 28 → z'.1 39 j = z.1 39 j) → Q (.inl (some (vL (wdF (autR (z.1 40) s) (l.toNat + 1) e.toNat (3440 + (autR (z.1 40) s).2.1))))) z'
  | _, _, _ => False
def bX10_counts : Nat → List (Instr × Nat)
  | 0 => [(.aload_n 0, 1), (.invokevirtual 197, 3), (.aload_n 0, 1), (.iconst 0, 1), (.putfield 222, 3), (.iconst 0, 1), (.istore 4, 2)]
  | 12 => [(.iload 4, 2), (.sipush 1472, 3), (.if_icmp .ge 17, 3), (.aload_n 0, 1), (.getfield 63, 3), (.iload 4, 2), (.lconst 0, 1), (.lastore, 1), (.iinc 4 1, 3), (.goto (-19), 3)]
  | 34 => [(.aload_n 0, 1), (.getfield 63, 3), (.bipush 16, 2), (.aload_n 0, 1), (.getfield 51, 3), (.sipush 215, 3), (.iaload, 1), (.imul, 1), (.aload_n 0, 1), (.getfield 7, 3), (.sipush 163, 3), (.iload_n 1, 1), (.imul, 1), (.iaload, 1), (.iadd, 1), (.lconst 1, 1), (.lastore, 1), (.iconst 0, 1), (.istore 4, 2)]
  | 65 => [(.iload 4, 2), (.iload_n 2, 1), (.if_icmp .ge 102, 3), (.iconst 0, 1), (.istore 5, 2)]
  | 74 => [(.iload 5, 2), (.sipush 1472, 3), (.if_icmp .ge 17, 3), (.aload_n 0, 1), (.getfield 66, 3), (.iload 5, 2), (.lconst 0, 1), (.lastore, 1), (.iinc 5 1, 3), (.goto (-19), 3)]
  | 96 => [(.iconst 0, 1), (.istore 5, 2)]
  | 99 => [(.iload 5, 2), (.sipush 1472, 3), (.if_icmp .ge 29, 3), (.aload_n 0, 1), (.getfield 63, 3), (.iload 5, 2), (.laload, 1), (.lconst 0, 1), (.lcmp, 1), (.ifCond .le 11, 3), (.aload_n 0, 1), (.iload_n 1, 1), (.iload 5, 2), (.iload_n 3, 1), (.invokevirtual 258, 3)]
  | 127 => [(.iinc 5 1, 3), (.goto (-31), 3)]
  | 133 => [(.iconst 0, 1), (.istore 5, 2)]
  | 136 => [(.iload 5, 2), (.sipush 1472, 3), (.if_icmp .ge 23, 3), (.aload_n 0, 1), (.getfield 63, 3), (.iload 5, 2), (.aload_n 0, 1), (.getfield 66, 3), (.iload 5, 2), (.laload, 1), (.lastore, 1), (.iinc 5 1, 3), (.goto (-25), 3)]
  | 164 => [(.iinc 4 1, 3), (.goto (-102), 3)]
  | 170 => [(.lconst 0, 1), (.lstore 4, 2), (.iconst 0, 1), (.istore 6, 2)]
  | 176 => [(.iload 6, 2), (.sipush 1472, 3), (.if_icmp .ge 46, 3), (.lload 4, 2), (.iload 6, 2), (.bipush 16, 2), (.irem, 1), (.aload_n 0, 1), (.getfield 7, 3), (.sipush 163, 3), (.iload_n 1, 1), (.imul, 1), (.iconst 1, 1), (.iadd, 1), (.iaload, 1), (.iand, 1), (.ifCond .eq 13, 3), (.aload_n 0, 1), (.getfield 63, 3), (.iload 6, 2), (.laload, 1), (.goto 4, 3)]
  | 217 => [(.lconst 0, 1)]
  | 218 => [(.ladd, 1), (.lstore 4, 2), (.iinc 6 1, 3), (.goto (-48), 3)]
  | 227 => [(.lload 4, 2), (.lreturn, 1)]
  | _ => []
def uX10_counts : Nat → Option (List Bool)
  | 12 => some [true, true, true, true, true, false, false]
  | 65 => some [true, true, true, true, true, false, false]
  | 74 => some [true, true, true, true, true, true, false]
  | 99 => some [true, true, true, true, true, true, false]
  | 136 => some [true, true, true, true, true, true, false]
  | 176 => some [true, true, false, false, true, false, true]
  | _ => none
def aX10_counts : pvCa
  | 197 => some (1, false, 9, 0, C_X10_laysLeads)
  | 258 => some (4, false, 9, 0, C_X10_spreads)
  | _ => none
theorem bX10_counts_0 : bX10_counts 0 = [(.aload_n 0, 1), (.invokevirtual 197, 3), (.aload_n 0, 1), (.iconst 0, 1), (.putfield 222, 3), (.iconst 0, 1), (.istore 4, 2)] := rfl
theorem uX10_counts_0 : uX10_counts 0 = none := rfl
theorem bX10_counts_12 : bX10_counts 12 = [(.iload 4, 2), (.sipush 1472, 3), (.if_icmp .ge 17, 3), (.aload_n 0, 1), (.getfield 63, 3), (.iload 4, 2), (.lconst 0, 1), (.lastore, 1), (.iinc 4 1, 3), (.goto (-19), 3)] := rfl
theorem uX10_counts_12 : uX10_counts 12 = some [true, true, true, true, true, false, false] := rfl
theorem bX10_counts_34 : bX10_counts 34 = [(.aload_n 0, 1), (.getfield 63, 3), (.bipush 16, 2), (.aload_n 0, 1), (.getfield 51, 3), (.sipush 215, 3), (.iaload, 1), (.imul, 1), (.aload_n 0, 1), (.getfield 7, 3), (.sipush 163, 3), (.iload_n 1, 1), (.imul, 1), (.iaload, 1), (.iadd, 1), (.lconst 1, 1), (.lastore, 1), (.iconst 0, 1), (.istore 4, 2)] := rfl
theorem uX10_counts_34 : uX10_counts 34 = none := rfl
theorem bX10_counts_65 : bX10_counts 65 = [(.iload 4, 2), (.iload_n 2, 1), (.if_icmp .ge 102, 3), (.iconst 0, 1), (.istore 5, 2)] := rfl
theorem uX10_counts_65 : uX10_counts 65 = some [true, true, true, true, true, false, false] := rfl
theorem bX10_counts_74 : bX10_counts 74 = [(.iload 5, 2), (.sipush 1472, 3), (.if_icmp .ge 17, 3), (.aload_n 0, 1), (.getfield 66, 3), (.iload 5, 2), (.lconst 0, 1), (.lastore, 1), (.iinc 5 1, 3), (.goto (-19), 3)] := rfl
theorem uX10_counts_74 : uX10_counts 74 = some [true, true, true, true, true, true, false] := rfl
theorem bX10_counts_96 : bX10_counts 96 = [(.iconst 0, 1), (.istore 5, 2)] := rfl
theorem uX10_counts_96 : uX10_counts 96 = none := rfl
theorem bX10_counts_99 : bX10_counts 99 = [(.iload 5, 2), (.sipush 1472, 3), (.if_icmp .ge 29, 3), (.aload_n 0, 1), (.getfield 63, 3), (.iload 5, 2), (.laload, 1), (.lconst 0, 1), (.lcmp, 1), (.ifCond .le 11, 3), (.aload_n 0, 1), (.iload_n 1, 1), (.iload 5, 2), (.iload_n 3, 1), (.invokevirtual 258, 3)] := rfl
theorem uX10_counts_99 : uX10_counts 99 = some [true, true, true, true, true, true, false] := rfl
theorem bX10_counts_127 : bX10_counts 127 = [(.iinc 5 1, 3), (.goto (-31), 3)] := rfl
theorem uX10_counts_127 : uX10_counts 127 = none := rfl
theorem bX10_counts_133 : bX10_counts 133 = [(.iconst 0, 1), (.istore 5, 2)] := rfl
theorem uX10_counts_133 : uX10_counts 133 = none := rfl
theorem bX10_counts_136 : bX10_counts 136 = [(.iload 5, 2), (.sipush 1472, 3), (.if_icmp .ge 23, 3), (.aload_n 0, 1), (.getfield 63, 3), (.iload 5, 2), (.aload_n 0, 1), (.getfield 66, 3), (.iload 5, 2), (.laload, 1), (.lastore, 1), (.iinc 5 1, 3), (.goto (-25), 3)] := rfl
theorem uX10_counts_136 : uX10_counts 136 = some [true, true, true, true, true, true, false] := rfl
theorem bX10_counts_164 : bX10_counts 164 = [(.iinc 4 1, 3), (.goto (-102), 3)] := rfl
theorem uX10_counts_164 : uX10_counts 164 = none := rfl
theorem bX10_counts_170 : bX10_counts 170 = [(.lconst 0, 1), (.lstore 4, 2), (.iconst 0, 1), (.istore 6, 2)] := rfl
theorem uX10_counts_170 : uX10_counts 170 = none := rfl
theorem bX10_counts_176 : bX10_counts 176 = [(.iload 6, 2), (.sipush 1472, 3), (.if_icmp .ge 46, 3), (.lload 4, 2), (.iload 6, 2), (.bipush 16, 2), (.irem, 1), (.aload_n 0, 1), (.getfield 7, 3), (.sipush 163, 3), (.iload_n 1, 1), (.imul, 1), (.iconst 1, 1), (.iadd, 1), (.iaload, 1), (.iand, 1), (.ifCond .eq 13, 3), (.aload_n 0, 1), (.getfield 63, 3), (.iload 6, 2), (.laload, 1), (.goto 4, 3)] := rfl
theorem uX10_counts_176 : uX10_counts 176 = some [true, true, false, false, true, false, true] := rfl
theorem bX10_counts_217 : bX10_counts 217 = [(.lconst 0, 1)] := rfl
theorem uX10_counts_217 : uX10_counts 217 = none := rfl
theorem bX10_counts_218 : bX10_counts 218 = [(.ladd, 1), (.lstore 4, 2), (.iinc 6 1, 3), (.goto (-48), 3)] := rfl
theorem uX10_counts_218 : uX10_counts 218 = none := rfl
theorem bX10_counts_227 : bX10_counts 227 = [(.lload 4, 2), (.lreturn, 1)] := rfl
theorem uX10_counts_227 : uX10_counts 227 = none := rfl
theorem aX10_counts_197 : aX10_counts 197 = some (1, false, 9, 0, C_X10_laysLeads) := rfl
theorem aX10_counts_258 : aX10_counts 258 = some (4, false, 9, 0, C_X10_spreads) := rfl
def mX10_counts : Room := { frames := 3, cells := 1, slots := 6, locals := 71 }
set_option maxRecDepth 100000 in
set_option maxHeartbeats 4000000 in
theorem okX10_counts : pvOkM fX10 aX10_counts kX10 eX10 (some .long) bX10_counts uX10_counts 7 C_X10_counts := by
  intro Q SW hc as z h hS hz
  unfold C_X10_counts at h
  split at h
  · rename_i id s e l
    obtain ⟨rfl, ⟨hs, he, hl, hW, hsm⟩, h2⟩ := h
    obtain ⟨l, rfl⟩ : ∃ n : Nat, l = n := ⟨l.toNat, by omega⟩
    obtain ⟨e, rfl⟩ : ∃ n : Nat, e = n := ⟨e.toNat, by omega⟩
    rw [Int.toNat_natCast, Int.toNat_natCast] at h2
    obtain ⟨A, eA⟩ : ∃ A, autR (z.1 40) s = A := ⟨_, rfl⟩
    have wA : WfA A := by rw [← eA]; exact hW s hs
    have w21 := wA.2.1
    rw [eA] at h2
    have gi : z.1 40 (163 * s).toNat = A.2.1 := by rw [← eA]; exact rS_i hs.1 rfl
    have gf : z.1 40 (163 * s + 1).toNat = A.2.2.1 := by rw [← eA]; exact rS_f hs.1 rfl
    refine ⟨Nat.le_of_ble_eq_true rfl, ?_⟩
    obtain ⟨B, hB⟩ : ∃ B : pvM → Prop, B = fun z' => frF [39, 48] [56, 57] z z' ∧ (∀ j, j ≠ 28 → z'.1 39 j = z.1 39 j) ∧ ldP (z'.1 48) s A := ⟨_, rfl⟩
    have bm : ∀ z' z'' : pvM, B z' → frF [] [56, 57] z' z'' → B z'' := by
      intro z' z'' hb f
      rw [hB] at hb ⊢
      obtain ⟨b1, b2, b3⟩ := hb
      refine ⟨frF_t b1 f (by simp) (by simp), fun j hj => ?_, ?_⟩
      · rw [f.1 39 (by simp)]; exact b2 j hj
      · rw [f.1 48 (by simp)]; exact b3
    have b40 : ∀ z' : pvM, B z' → z'.1 40 = z.1 40 ∧ z'.1 52 = z.1 52 ∧ ldP (z'.1 48) s A := by
      intro z' hb
      rw [hB] at hb
      exact ⟨hb.1.1 40 (by simp), hb.1.1 52 (by simp), hb.2.2⟩
    have add : ∀ (m i : Nat) (z' : pvM) (n : Int), i + m = 1472 → B z' → smN (z'.2.1 56) (fun y => wdF A (l + 1) 0 (plX y)) 1472 = wdF A (l + 1) e (3440 + A.2.1) → n = smN (z'.2.1 56) (fun y => wdF A (l + 1) 0 (plX y)) i →
        SW 176 [some (vR 39), some (vI s), none, none, some (vL n), none, some (vI (i : Int))] z' := by
      intro m
      induction m using Nat.strongRecOn with
      | _ m ih =>
        intro i z' n hi f1 o1 o2
        refine hc 20 _ _ _ fun _ _ => ?_
        simp only [pvSt1]
        have e40 := (b40 _ f1).1
        by_cases hi2 : 1472 ≤ i
        · have ei : i = 1472 := by omega
          subst ei
          rw [hB] at f1
          have q9 := h2 z' f1.1 f1.2.1
          rw [← o1, ← o2] at q9
          simp only [pvE_aload_n0, pvLA_s, pvLd, pvE_invokevirtual, pvC1_s, pvC2_s, pvAf_v, pvAf_x, pvPop, pvCs, pvCat, pvPush, aX10_counts_197, pvSh_0, pvSh_1, pvSh_2, pvSh_3, pvSh_4, pvSh_5, pvSh_6, pvSh_7, pvSh_8, pvSh_9, pvSh_10, pvSh_11, pvSh_12, pvSh_13, pvSh_14, pvSh_15, pvSh_16, pvSh_17, pvSh_18, pvSh_19, pvSh_20, pvSh_21, pvSh_22, pvSh_23, pvSh_24, pvSh_25, pvSh_26, pvSh_27, pvSh_28, pvSh_29, pvSh_30, pvSh_31, pvSh_32, pvSh_33, pvSh_34, pvSh_35, pvSh_36, pvSh_37, pvSh_38, pvSh_39, pvSh_40, pvSh_41, pvSh_42, pvSh_43, pvSh_44, pvSh_45, pvSh_46, pvSh_47, pvSh_48, pvSh_49, pvSh_50, pvSh_51, pvSh_52, pvSh_53, pvSh_54, pvSh_55, pvSh_56, pvSh_57, pvSh_58, pvSh_59, pvE_iconst, pvE_putfield, pvPf_0, pvPf_1, fX10_222, pvE_istore, pvS1, List.length_cons, List.length_nil, pvClr_i, pvClr_r, pvClr_l, pvClr_d, pvClr_f, pvClr_n, pvE_iload, pvLI_s, pvE_sipush, pvE_icmp_ge, pvE_getfield, pvGf_0, pvGf_1, pvGf_2, fX10_63, pvRf_0_0, pvRf_0_1, pvRf_0_2, pvRf_0_3, pvRf_0_4, pvRf_0_5, pvRf_0_6, pvRf_0_7, pvRf_0_8, pvRf_0_9, pvRf_0_10, pvRf_1_0, pvRf_3_0, pvRf_5_0, pvRf_5_1, pvRf_5_2, pvRf_9_0, pvRf_9_1, pvRf_9_2, pvRf_13_0, pvRf_13_1, pvRf_13_2, pvRf_17_0, pvRf_17_2, pvRf_20_0, pvRf_20_1, pvRf_20_2, pvRf_24_0, pvRf_24_1, pvRf_24_2, pvRf_28_0, pvRf_28_1, pvRf_28_2, pvRf_28_3, pvRf_33_0, pvRf_33_1, pvRf_36_0, pvRf_36_1, pvRf_39_0, pvRf_39_1, pvRf_39_2, pvRf_39_5, pvRf_39_6, pvRf_39_9, pvRf_39_13, pvRf_39_15, pvRf_39_16, pvRf_39_17, pvRf_39_19, pvRf_39_20, pvRf_39_22, pvRf_39_23, pvRf_39_24, pvRf_39_25, pvRf_39_29, pvRf_39_30, pvE_lconst0, pvE_lastore, pvAL, pvE_iinc, pvIc_s, pvE_goto, pvE_bipush, fX10_51, pvE_iaload, pvAI, pvE_imul, fX10_7, pvE_iload_n1, pvE_iadd, pvE_lconst1, pvE_iload_n2, fX10_66, pvE_laload, pvE_lcmp, pvE_if_le, pvE_iload_n3, aX10_counts_258, pvE_lstore, pvS2, pvE_lload, pvLL_s, pvE_irem, pvE_iand, pvE_if_eq, pvE_ladd, pvE_lreturn, bX10_counts_0, uX10_counts_0, bX10_counts_12, uX10_counts_12, bX10_counts_34, uX10_counts_34, bX10_counts_65, uX10_counts_65, bX10_counts_74, uX10_counts_74, bX10_counts_96, uX10_counts_96, bX10_counts_99, uX10_counts_99, bX10_counts_127, uX10_counts_127, bX10_counts_133, uX10_counts_133, bX10_counts_136, uX10_counts_136, bX10_counts_164, uX10_counts_164, bX10_counts_170, uX10_counts_170, bX10_counts_176, uX10_counts_176, bX10_counts_217, uX10_counts_217, bX10_counts_218, uX10_counts_218, bX10_counts_227, uX10_counts_227, pvMk_t, pvMk_f, pvMk_n, pvRecv_r, pvUp_nl, pvUp_same, pvUp_ap, pvSt_ap, pvX_c, pvX_ms, pvX_mn, pvE_nil, pvEn_i, pvEn_r, pvEn_l, pvEn_0, pvEn_s, pvRt, pvRv, pvTh, pvKc, pvGo, pvTgt, Int.toNat_natCast, false_and, and_false, true_and, and_true, if_true, if_false, reduceIte, reduceCtorEq, forall_const, false_or, or_false, true_or, or_true, ne_eq, not_true_eq_false, not_false_eq_true, implies_true, false_implies, Nat.reduceAdd, Nat.reduceSub, Nat.reduceMul, Nat.reduceEqDiff, Nat.reduceLT, Nat.reduceLeDiff, Int.reduceAdd, Int.reduceSub, Int.reduceMul, Int.reduceNeg, Int.reduceToNat, Int.reduceLE, Int.reduceLT, Int.reduceEq, Int.reduceNe, and_self]
          (repeat' first | with_reducible apply And.intro | with_reducible intro _)
          all_goals first
            | omega
            | exact q9
        · have p4 := (plX_r (y := (i : Int)) (by omega)).2.2.2
          by_cases hb : pvAnd ((i : Int) % 16) A.2.2.1 = 0
          · have q9 := ih (m - 1) (by omega) (i + 1) z' (n + 0) (by omega) f1 o1 (by
              rw [o2, Int.add_zero]
              show _ = smN _ _ i + _ * (if pvAnd (plX (i : Int) % 16) A.2.2.1 = 0 then 0 else 1)
              rw [p4, if_pos hb, Int.mul_zero]
              exact (Int.add_zero _).symm)
            simp only [e40, gf, pvE_aload_n0, pvLA_s, pvLd, pvE_invokevirtual, pvC1_s, pvC2_s, pvAf_v, pvAf_x, pvPop, pvCs, pvCat, pvPush, aX10_counts_197, pvSh_0, pvSh_1, pvSh_2, pvSh_3, pvSh_4, pvSh_5, pvSh_6, pvSh_7, pvSh_8, pvSh_9, pvSh_10, pvSh_11, pvSh_12, pvSh_13, pvSh_14, pvSh_15, pvSh_16, pvSh_17, pvSh_18, pvSh_19, pvSh_20, pvSh_21, pvSh_22, pvSh_23, pvSh_24, pvSh_25, pvSh_26, pvSh_27, pvSh_28, pvSh_29, pvSh_30, pvSh_31, pvSh_32, pvSh_33, pvSh_34, pvSh_35, pvSh_36, pvSh_37, pvSh_38, pvSh_39, pvSh_40, pvSh_41, pvSh_42, pvSh_43, pvSh_44, pvSh_45, pvSh_46, pvSh_47, pvSh_48, pvSh_49, pvSh_50, pvSh_51, pvSh_52, pvSh_53, pvSh_54, pvSh_55, pvSh_56, pvSh_57, pvSh_58, pvSh_59, pvE_iconst, pvE_putfield, pvPf_0, pvPf_1, fX10_222, pvE_istore, pvS1, List.length_cons, List.length_nil, pvClr_i, pvClr_r, pvClr_l, pvClr_d, pvClr_f, pvClr_n, pvE_iload, pvLI_s, pvE_sipush, pvE_icmp_ge, pvE_getfield, pvGf_0, pvGf_1, pvGf_2, fX10_63, pvRf_0_0, pvRf_0_1, pvRf_0_2, pvRf_0_3, pvRf_0_4, pvRf_0_5, pvRf_0_6, pvRf_0_7, pvRf_0_8, pvRf_0_9, pvRf_0_10, pvRf_1_0, pvRf_3_0, pvRf_5_0, pvRf_5_1, pvRf_5_2, pvRf_9_0, pvRf_9_1, pvRf_9_2, pvRf_13_0, pvRf_13_1, pvRf_13_2, pvRf_17_0, pvRf_17_2, pvRf_20_0, pvRf_20_1, pvRf_20_2, pvRf_24_0, pvRf_24_1, pvRf_24_2, pvRf_28_0, pvRf_28_1, pvRf_28_2, pvRf_28_3, pvRf_33_0, pvRf_33_1, pvRf_36_0, pvRf_36_1, pvRf_39_0, pvRf_39_1, pvRf_39_2, pvRf_39_5, pvRf_39_6, pvRf_39_9, pvRf_39_13, pvRf_39_15, pvRf_39_16, pvRf_39_17, pvRf_39_19, pvRf_39_20, pvRf_39_22, pvRf_39_23, pvRf_39_24, pvRf_39_25, pvRf_39_29, pvRf_39_30, pvE_lconst0, pvE_lastore, pvAL, pvE_iinc, pvIc_s, pvE_goto, pvE_bipush, fX10_51, pvE_iaload, pvAI, pvE_imul, fX10_7, pvE_iload_n1, pvE_iadd, pvE_lconst1, pvE_iload_n2, fX10_66, pvE_laload, pvE_lcmp, pvE_if_le, pvE_iload_n3, aX10_counts_258, pvE_lstore, pvS2, pvE_lload, pvLL_s, pvE_irem, pvE_iand, pvE_if_eq, pvE_ladd, pvE_lreturn, bX10_counts_0, uX10_counts_0, bX10_counts_12, uX10_counts_12, bX10_counts_34, uX10_counts_34, bX10_counts_65, uX10_counts_65, bX10_counts_74, uX10_counts_74, bX10_counts_96, uX10_counts_96, bX10_counts_99, uX10_counts_99, bX10_counts_127, uX10_counts_127, bX10_counts_133, uX10_counts_133, bX10_counts_136, uX10_counts_136, bX10_counts_164, uX10_counts_164, bX10_counts_170, uX10_counts_170, bX10_counts_176, uX10_counts_176, bX10_counts_217, uX10_counts_217, bX10_counts_218, uX10_counts_218, bX10_counts_227, uX10_counts_227, pvMk_t, pvMk_f, pvMk_n, pvRecv_r, pvUp_nl, pvUp_same, pvUp_ap, pvSt_ap, pvX_c, pvX_ms, pvX_mn, pvE_nil, pvEn_i, pvEn_r, pvEn_l, pvEn_0, pvEn_s, pvRt, pvRv, pvTh, pvKc, pvGo, pvTgt, Int.toNat_natCast, false_and, and_false, true_and, and_true, if_true, if_false, reduceIte, reduceCtorEq, forall_const, false_or, or_false, true_or, or_true, ne_eq, not_true_eq_false, not_false_eq_true, implies_true, false_implies, Nat.reduceAdd, Nat.reduceSub, Nat.reduceMul, Nat.reduceEqDiff, Nat.reduceLT, Nat.reduceLeDiff, Int.reduceAdd, Int.reduceSub, Int.reduceMul, Int.reduceNeg, Int.reduceToNat, Int.reduceLE, Int.reduceLT, Int.reduceEq, Int.reduceNe, and_self]
            (repeat' first | with_reducible apply And.intro | with_reducible intro _)
            all_goals first
              | omega
              | contradiction
              | exact q9
          · have q9 := ih (m - 1) (by omega) (i + 1) z' (n + z'.2.1 56 i) (by omega) f1 o1 (by
              rw [o2]
              show _ = smN _ _ i + _ * (if pvAnd (plX (i : Int) % 16) A.2.2.1 = 0 then 0 else 1)
              rw [p4, if_neg hb, Int.mul_one])
            simp only [e40, gf, pvE_aload_n0, pvLA_s, pvLd, pvE_invokevirtual, pvC1_s, pvC2_s, pvAf_v, pvAf_x, pvPop, pvCs, pvCat, pvPush, aX10_counts_197, pvSh_0, pvSh_1, pvSh_2, pvSh_3, pvSh_4, pvSh_5, pvSh_6, pvSh_7, pvSh_8, pvSh_9, pvSh_10, pvSh_11, pvSh_12, pvSh_13, pvSh_14, pvSh_15, pvSh_16, pvSh_17, pvSh_18, pvSh_19, pvSh_20, pvSh_21, pvSh_22, pvSh_23, pvSh_24, pvSh_25, pvSh_26, pvSh_27, pvSh_28, pvSh_29, pvSh_30, pvSh_31, pvSh_32, pvSh_33, pvSh_34, pvSh_35, pvSh_36, pvSh_37, pvSh_38, pvSh_39, pvSh_40, pvSh_41, pvSh_42, pvSh_43, pvSh_44, pvSh_45, pvSh_46, pvSh_47, pvSh_48, pvSh_49, pvSh_50, pvSh_51, pvSh_52, pvSh_53, pvSh_54, pvSh_55, pvSh_56, pvSh_57, pvSh_58, pvSh_59, pvE_iconst, pvE_putfield, pvPf_0, pvPf_1, fX10_222, pvE_istore, pvS1, List.length_cons, List.length_nil, pvClr_i, pvClr_r, pvClr_l, pvClr_d, pvClr_f, pvClr_n, pvE_iload, pvLI_s, pvE_sipush, pvE_icmp_ge, pvE_getfield, pvGf_0, pvGf_1, pvGf_2, fX10_63, pvRf_0_0, pvRf_0_1, pvRf_0_2, pvRf_0_3, pvRf_0_4, pvRf_0_5, pvRf_0_6, pvRf_0_7, pvRf_0_8, pvRf_0_9, pvRf_0_10, pvRf_1_0, pvRf_3_0, pvRf_5_0, pvRf_5_1, pvRf_5_2, pvRf_9_0, pvRf_9_1, pvRf_9_2, pvRf_13_0, pvRf_13_1, pvRf_13_2, pvRf_17_0, pvRf_17_2, pvRf_20_0, pvRf_20_1, pvRf_20_2, pvRf_24_0, pvRf_24_1, pvRf_24_2, pvRf_28_0, pvRf_28_1, pvRf_28_2, pvRf_28_3, pvRf_33_0, pvRf_33_1, pvRf_36_0, pvRf_36_1, pvRf_39_0, pvRf_39_1, pvRf_39_2, pvRf_39_5, pvRf_39_6, pvRf_39_9, pvRf_39_13, pvRf_39_15, pvRf_39_16, pvRf_39_17, pvRf_39_19, pvRf_39_20, pvRf_39_22, pvRf_39_23, pvRf_39_24, pvRf_39_25, pvRf_39_29, pvRf_39_30, pvE_lconst0, pvE_lastore, pvAL, pvE_iinc, pvIc_s, pvE_goto, pvE_bipush, fX10_51, pvE_iaload, pvAI, pvE_imul, fX10_7, pvE_iload_n1, pvE_iadd, pvE_lconst1, pvE_iload_n2, fX10_66, pvE_laload, pvE_lcmp, pvE_if_le, pvE_iload_n3, aX10_counts_258, pvE_lstore, pvS2, pvE_lload, pvLL_s, pvE_irem, pvE_iand, pvE_if_eq, pvE_ladd, pvE_lreturn, bX10_counts_0, uX10_counts_0, bX10_counts_12, uX10_counts_12, bX10_counts_34, uX10_counts_34, bX10_counts_65, uX10_counts_65, bX10_counts_74, uX10_counts_74, bX10_counts_96, uX10_counts_96, bX10_counts_99, uX10_counts_99, bX10_counts_127, uX10_counts_127, bX10_counts_133, uX10_counts_133, bX10_counts_136, uX10_counts_136, bX10_counts_164, uX10_counts_164, bX10_counts_170, uX10_counts_170, bX10_counts_176, uX10_counts_176, bX10_counts_217, uX10_counts_217, bX10_counts_218, uX10_counts_218, bX10_counts_227, uX10_counts_227, pvMk_t, pvMk_f, pvMk_n, pvRecv_r, pvUp_nl, pvUp_same, pvUp_ap, pvSt_ap, pvX_c, pvX_ms, pvX_mn, pvE_nil, pvEn_i, pvEn_r, pvEn_l, pvEn_0, pvEn_s, pvRt, pvRv, pvTh, pvKc, pvGo, pvTgt, Int.toNat_natCast, false_and, and_false, true_and, and_true, if_true, if_false, reduceIte, reduceCtorEq, forall_const, false_or, or_false, true_or, or_true, ne_eq, not_true_eq_false, not_false_eq_true, implies_true, false_implies, Nat.reduceAdd, Nat.reduceSub, Nat.reduceMul, Nat.reduceEqDiff, Nat.reduceLT, Nat.reduceLeDiff, Int.reduceAdd, Int.reduceSub, Int.reduceMul, Int.reduceNeg, Int.reduceToNat, Int.reduceLE, Int.reduceLT, Int.reduceEq, Int.reduceNe, and_self]
            (repeat' first | with_reducible apply And.intro | with_reducible intro _)
            all_goals first
              | omega
              | contradiction
              | exact q9
    have evs : ∀ (m k : Nat) (z' : pvM), k + m = e → B z' → smN (z'.2.1 56) (fun y => wdF A (l + 1) m (plX y)) 1472 = wdF A (l + 1) e (3440 + A.2.1) → smN (z'.2.1 56) (fun _ => 1) 1472 ≤ 15 ^ k → (∀ i, i < 1472 → 0 ≤ z'.2.1 56 i) →
        SW 65 [some (vR 39), some (vI s), some (vI (e : Int)), some (vI (l : Int)), some (vI (k : Int)), none, none] z' := by
      intro m
      induction m with
      | zero =>
        intro k z' hk f1 o1 o2 o3
        refine hc 20 _ _ _ fun _ _ => ?_
        simp only [pvSt1]
        have q9 := add 1472 0 z' 0 rfl f1 o1 rfl
        simp only [pvE_aload_n0, pvLA_s, pvLd, pvE_invokevirtual, pvC1_s, pvC2_s, pvAf_v, pvAf_x, pvPop, pvCs, pvCat, pvPush, aX10_counts_197, pvSh_0, pvSh_1, pvSh_2, pvSh_3, pvSh_4, pvSh_5, pvSh_6, pvSh_7, pvSh_8, pvSh_9, pvSh_10, pvSh_11, pvSh_12, pvSh_13, pvSh_14, pvSh_15, pvSh_16, pvSh_17, pvSh_18, pvSh_19, pvSh_20, pvSh_21, pvSh_22, pvSh_23, pvSh_24, pvSh_25, pvSh_26, pvSh_27, pvSh_28, pvSh_29, pvSh_30, pvSh_31, pvSh_32, pvSh_33, pvSh_34, pvSh_35, pvSh_36, pvSh_37, pvSh_38, pvSh_39, pvSh_40, pvSh_41, pvSh_42, pvSh_43, pvSh_44, pvSh_45, pvSh_46, pvSh_47, pvSh_48, pvSh_49, pvSh_50, pvSh_51, pvSh_52, pvSh_53, pvSh_54, pvSh_55, pvSh_56, pvSh_57, pvSh_58, pvSh_59, pvE_iconst, pvE_putfield, pvPf_0, pvPf_1, fX10_222, pvE_istore, pvS1, List.length_cons, List.length_nil, pvClr_i, pvClr_r, pvClr_l, pvClr_d, pvClr_f, pvClr_n, pvE_iload, pvLI_s, pvE_sipush, pvE_icmp_ge, pvE_getfield, pvGf_0, pvGf_1, pvGf_2, fX10_63, pvRf_0_0, pvRf_0_1, pvRf_0_2, pvRf_0_3, pvRf_0_4, pvRf_0_5, pvRf_0_6, pvRf_0_7, pvRf_0_8, pvRf_0_9, pvRf_0_10, pvRf_1_0, pvRf_3_0, pvRf_5_0, pvRf_5_1, pvRf_5_2, pvRf_9_0, pvRf_9_1, pvRf_9_2, pvRf_13_0, pvRf_13_1, pvRf_13_2, pvRf_17_0, pvRf_17_2, pvRf_20_0, pvRf_20_1, pvRf_20_2, pvRf_24_0, pvRf_24_1, pvRf_24_2, pvRf_28_0, pvRf_28_1, pvRf_28_2, pvRf_28_3, pvRf_33_0, pvRf_33_1, pvRf_36_0, pvRf_36_1, pvRf_39_0, pvRf_39_1, pvRf_39_2, pvRf_39_5, pvRf_39_6, pvRf_39_9, pvRf_39_13, pvRf_39_15, pvRf_39_16, pvRf_39_17, pvRf_39_19, pvRf_39_20, pvRf_39_22, pvRf_39_23, pvRf_39_24, pvRf_39_25, pvRf_39_29, pvRf_39_30, pvE_lconst0, pvE_lastore, pvAL, pvE_iinc, pvIc_s, pvE_goto, pvE_bipush, fX10_51, pvE_iaload, pvAI, pvE_imul, fX10_7, pvE_iload_n1, pvE_iadd, pvE_lconst1, pvE_iload_n2, fX10_66, pvE_laload, pvE_lcmp, pvE_if_le, pvE_iload_n3, aX10_counts_258, pvE_lstore, pvS2, pvE_lload, pvLL_s, pvE_irem, pvE_iand, pvE_if_eq, pvE_ladd, pvE_lreturn, bX10_counts_0, uX10_counts_0, bX10_counts_12, uX10_counts_12, bX10_counts_34, uX10_counts_34, bX10_counts_65, uX10_counts_65, bX10_counts_74, uX10_counts_74, bX10_counts_96, uX10_counts_96, bX10_counts_99, uX10_counts_99, bX10_counts_127, uX10_counts_127, bX10_counts_133, uX10_counts_133, bX10_counts_136, uX10_counts_136, bX10_counts_164, uX10_counts_164, bX10_counts_170, uX10_counts_170, bX10_counts_176, uX10_counts_176, bX10_counts_217, uX10_counts_217, bX10_counts_218, uX10_counts_218, bX10_counts_227, uX10_counts_227, pvMk_t, pvMk_f, pvMk_n, pvRecv_r, pvUp_nl, pvUp_same, pvUp_ap, pvSt_ap, pvX_c, pvX_ms, pvX_mn, pvE_nil, pvEn_i, pvEn_r, pvEn_l, pvEn_0, pvEn_s, pvRt, pvRv, pvTh, pvKc, pvGo, pvTgt, Int.toNat_natCast, false_and, and_false, true_and, and_true, if_true, if_false, reduceIte, reduceCtorEq, forall_const, false_or, or_false, true_or, or_true, ne_eq, not_true_eq_false, not_false_eq_true, implies_true, false_implies, Nat.reduceAdd, Nat.reduceSub, Nat.reduceMul, Nat.reduceEqDiff, Nat.reduceLT, Nat.reduceLeDiff, Int.reduceAdd, Int.reduceSub, Int.reduceMul, Int.reduceNeg, Int.reduceToNat, Int.reduceLE, Int.reduceLT, Int.reduceEq, Int.reduceNe, and_self]
        (repeat' first | with_reducible apply And.intro | with_reducible intro _)
        all_goals first
          | omega
          | exact q9
      | succ m ih =>
        intro k z0 hk f1 o1 o2 o3
        have hp := smN_q (n := 1472) (by omega) o3 o2
        have copy : ∀ (mm i : Nat) (z3 : pvM), i + mm = 1472 → B z3 → (∀ W : Int → Int, smN (z3.2.1 57) (fun y => W (plX y)) 1472 = smN (z0.2.1 56) (fun y => sdK (fun a d => W (nxW A (plX y) a d)) (l + 1)) 1472) → (∀ i, i < 1472 → 0 ≤ z3.2.1 57 i) → (∀ j, j < i → z3.2.1 56 j = z3.2.1 57 j) →
            SW 136 [some (vR 39), some (vI s), some (vI (e : Int)), some (vI (l : Int)), some (vI (k : Int)), some (vI (i : Int)), none] z3 := by
          intro mm
          induction mm using Nat.strongRecOn with
          | _ mm ihc =>
            intro i z3 hi b3 c1 c2 c3
            refine hc 20 _ _ _ fun _ _ => ?_
            simp only [pvSt1]
            by_cases hi2 : 1472 ≤ i
            · have hsame : ∀ W : Int → Int, smN (z3.2.1 56) (fun y => W (plX y)) 1472 = smN (z0.2.1 56) (fun y => sdK (fun a d => W (nxW A (plX y) a d)) (l + 1)) 1472 := fun W => by
                rw [← c1 W]
                exact smN_e 1472 fun j hj => ⟨c3 j (by omega), rfl⟩
              have q9 := ih (k + 1) z3 (by omega) b3 ((hsame _).trans o1) (by
                have := hsame (fun _ => 1)
                rw [this]
                simp only [sdK_1]
                rw [smN_c]
                have h0 := (smN_le (c := z0.2.1 56) 1472 o3).1
                rw [Int.pow_succ, Int.mul_comm _ 15]
                exact Int.mul_le_mul (by omega) o2 h0 (by decide)) (fun j hj => by rw [c3 j (by omega)]; exact c2 j hj)
              simp only [pvE_aload_n0, pvLA_s, pvLd, pvE_invokevirtual, pvC1_s, pvC2_s, pvAf_v, pvAf_x, pvPop, pvCs, pvCat, pvPush, aX10_counts_197, pvSh_0, pvSh_1, pvSh_2, pvSh_3, pvSh_4, pvSh_5, pvSh_6, pvSh_7, pvSh_8, pvSh_9, pvSh_10, pvSh_11, pvSh_12, pvSh_13, pvSh_14, pvSh_15, pvSh_16, pvSh_17, pvSh_18, pvSh_19, pvSh_20, pvSh_21, pvSh_22, pvSh_23, pvSh_24, pvSh_25, pvSh_26, pvSh_27, pvSh_28, pvSh_29, pvSh_30, pvSh_31, pvSh_32, pvSh_33, pvSh_34, pvSh_35, pvSh_36, pvSh_37, pvSh_38, pvSh_39, pvSh_40, pvSh_41, pvSh_42, pvSh_43, pvSh_44, pvSh_45, pvSh_46, pvSh_47, pvSh_48, pvSh_49, pvSh_50, pvSh_51, pvSh_52, pvSh_53, pvSh_54, pvSh_55, pvSh_56, pvSh_57, pvSh_58, pvSh_59, pvE_iconst, pvE_putfield, pvPf_0, pvPf_1, fX10_222, pvE_istore, pvS1, List.length_cons, List.length_nil, pvClr_i, pvClr_r, pvClr_l, pvClr_d, pvClr_f, pvClr_n, pvE_iload, pvLI_s, pvE_sipush, pvE_icmp_ge, pvE_getfield, pvGf_0, pvGf_1, pvGf_2, fX10_63, pvRf_0_0, pvRf_0_1, pvRf_0_2, pvRf_0_3, pvRf_0_4, pvRf_0_5, pvRf_0_6, pvRf_0_7, pvRf_0_8, pvRf_0_9, pvRf_0_10, pvRf_1_0, pvRf_3_0, pvRf_5_0, pvRf_5_1, pvRf_5_2, pvRf_9_0, pvRf_9_1, pvRf_9_2, pvRf_13_0, pvRf_13_1, pvRf_13_2, pvRf_17_0, pvRf_17_2, pvRf_20_0, pvRf_20_1, pvRf_20_2, pvRf_24_0, pvRf_24_1, pvRf_24_2, pvRf_28_0, pvRf_28_1, pvRf_28_2, pvRf_28_3, pvRf_33_0, pvRf_33_1, pvRf_36_0, pvRf_36_1, pvRf_39_0, pvRf_39_1, pvRf_39_2, pvRf_39_5, pvRf_39_6, pvRf_39_9, pvRf_39_13, pvRf_39_15, pvRf_39_16, pvRf_39_17, pvRf_39_19, pvRf_39_20, pvRf_39_22, pvRf_39_23, pvRf_39_24, pvRf_39_25, pvRf_39_29, pvRf_39_30, pvE_lconst0, pvE_lastore, pvAL, pvE_iinc, pvIc_s, pvE_goto, pvE_bipush, fX10_51, pvE_iaload, pvAI, pvE_imul, fX10_7, pvE_iload_n1, pvE_iadd, pvE_lconst1, pvE_iload_n2, fX10_66, pvE_laload, pvE_lcmp, pvE_if_le, pvE_iload_n3, aX10_counts_258, pvE_lstore, pvS2, pvE_lload, pvLL_s, pvE_irem, pvE_iand, pvE_if_eq, pvE_ladd, pvE_lreturn, bX10_counts_0, uX10_counts_0, bX10_counts_12, uX10_counts_12, bX10_counts_34, uX10_counts_34, bX10_counts_65, uX10_counts_65, bX10_counts_74, uX10_counts_74, bX10_counts_96, uX10_counts_96, bX10_counts_99, uX10_counts_99, bX10_counts_127, uX10_counts_127, bX10_counts_133, uX10_counts_133, bX10_counts_136, uX10_counts_136, bX10_counts_164, uX10_counts_164, bX10_counts_170, uX10_counts_170, bX10_counts_176, uX10_counts_176, bX10_counts_217, uX10_counts_217, bX10_counts_218, uX10_counts_218, bX10_counts_227, uX10_counts_227, pvMk_t, pvMk_f, pvMk_n, pvRecv_r, pvUp_nl, pvUp_same, pvUp_ap, pvSt_ap, pvX_c, pvX_ms, pvX_mn, pvE_nil, pvEn_i, pvEn_r, pvEn_l, pvEn_0, pvEn_s, pvRt, pvRv, pvTh, pvKc, pvGo, pvTgt, Int.toNat_natCast, false_and, and_false, true_and, and_true, if_true, if_false, reduceIte, reduceCtorEq, forall_const, false_or, or_false, true_or, or_true, ne_eq, not_true_eq_false, not_false_eq_true, implies_true, false_implies, Nat.reduceAdd, Nat.reduceSub, Nat.reduceMul, Nat.reduceEqDiff, Nat.reduceLT, Nat.reduceLeDiff, Int.reduceAdd, Int.reduceSub, Int.reduceMul, Int.reduceNeg, Int.reduceToNat, Int.reduceLE, Int.reduceLT, Int.reduceEq, Int.reduceNe, and_self]
              (repeat' first | with_reducible apply And.intro | with_reducible intro _)
              all_goals first
                | omega
                | exact q9
            · have e57 : ∀ v : Int, (pvUp z3.2.1 56 i v) 57 = z3.2.1 57 := fun v => pvUp_ne (by decide)
              have q9 := ihc (mm - 1) (by omega) (i + 1) (z3.1, pvUp z3.2.1 56 i (z3.2.1 57 i), z3.2.2) (by omega) (bm _ _ b3 (frF_l frF_0 (by simp))) (fun W => by
                show smN ((pvUp z3.2.1 56 i (z3.2.1 57 i)) 57) _ 1472 = _
                rw [e57]
                exact c1 W) (fun j hj => by
                show 0 ≤ (pvUp z3.2.1 56 i (z3.2.1 57 i)) 57 j
                rw [e57]
                exact c2 j hj) (fun j hj => by
                show (pvUp z3.2.1 56 i (z3.2.1 57 i)) 56 j = (pvUp z3.2.1 56 i (z3.2.1 57 i)) 57 j
                rw [e57]
                simp only [pvUp_ap, true_and]
                split
                · rename_i e; rw [e]
                · exact c3 j (by omega))
              simp only [pvE_aload_n0, pvLA_s, pvLd, pvE_invokevirtual, pvC1_s, pvC2_s, pvAf_v, pvAf_x, pvPop, pvCs, pvCat, pvPush, aX10_counts_197, pvSh_0, pvSh_1, pvSh_2, pvSh_3, pvSh_4, pvSh_5, pvSh_6, pvSh_7, pvSh_8, pvSh_9, pvSh_10, pvSh_11, pvSh_12, pvSh_13, pvSh_14, pvSh_15, pvSh_16, pvSh_17, pvSh_18, pvSh_19, pvSh_20, pvSh_21, pvSh_22, pvSh_23, pvSh_24, pvSh_25, pvSh_26, pvSh_27, pvSh_28, pvSh_29, pvSh_30, pvSh_31, pvSh_32, pvSh_33, pvSh_34, pvSh_35, pvSh_36, pvSh_37, pvSh_38, pvSh_39, pvSh_40, pvSh_41, pvSh_42, pvSh_43, pvSh_44, pvSh_45, pvSh_46, pvSh_47, pvSh_48, pvSh_49, pvSh_50, pvSh_51, pvSh_52, pvSh_53, pvSh_54, pvSh_55, pvSh_56, pvSh_57, pvSh_58, pvSh_59, pvE_iconst, pvE_putfield, pvPf_0, pvPf_1, fX10_222, pvE_istore, pvS1, List.length_cons, List.length_nil, pvClr_i, pvClr_r, pvClr_l, pvClr_d, pvClr_f, pvClr_n, pvE_iload, pvLI_s, pvE_sipush, pvE_icmp_ge, pvE_getfield, pvGf_0, pvGf_1, pvGf_2, fX10_63, pvRf_0_0, pvRf_0_1, pvRf_0_2, pvRf_0_3, pvRf_0_4, pvRf_0_5, pvRf_0_6, pvRf_0_7, pvRf_0_8, pvRf_0_9, pvRf_0_10, pvRf_1_0, pvRf_3_0, pvRf_5_0, pvRf_5_1, pvRf_5_2, pvRf_9_0, pvRf_9_1, pvRf_9_2, pvRf_13_0, pvRf_13_1, pvRf_13_2, pvRf_17_0, pvRf_17_2, pvRf_20_0, pvRf_20_1, pvRf_20_2, pvRf_24_0, pvRf_24_1, pvRf_24_2, pvRf_28_0, pvRf_28_1, pvRf_28_2, pvRf_28_3, pvRf_33_0, pvRf_33_1, pvRf_36_0, pvRf_36_1, pvRf_39_0, pvRf_39_1, pvRf_39_2, pvRf_39_5, pvRf_39_6, pvRf_39_9, pvRf_39_13, pvRf_39_15, pvRf_39_16, pvRf_39_17, pvRf_39_19, pvRf_39_20, pvRf_39_22, pvRf_39_23, pvRf_39_24, pvRf_39_25, pvRf_39_29, pvRf_39_30, pvE_lconst0, pvE_lastore, pvAL, pvE_iinc, pvIc_s, pvE_goto, pvE_bipush, fX10_51, pvE_iaload, pvAI, pvE_imul, fX10_7, pvE_iload_n1, pvE_iadd, pvE_lconst1, pvE_iload_n2, fX10_66, pvE_laload, pvE_lcmp, pvE_if_le, pvE_iload_n3, aX10_counts_258, pvE_lstore, pvS2, pvE_lload, pvLL_s, pvE_irem, pvE_iand, pvE_if_eq, pvE_ladd, pvE_lreturn, bX10_counts_0, uX10_counts_0, bX10_counts_12, uX10_counts_12, bX10_counts_34, uX10_counts_34, bX10_counts_65, uX10_counts_65, bX10_counts_74, uX10_counts_74, bX10_counts_96, uX10_counts_96, bX10_counts_99, uX10_counts_99, bX10_counts_127, uX10_counts_127, bX10_counts_133, uX10_counts_133, bX10_counts_136, uX10_counts_136, bX10_counts_164, uX10_counts_164, bX10_counts_170, uX10_counts_170, bX10_counts_176, uX10_counts_176, bX10_counts_217, uX10_counts_217, bX10_counts_218, uX10_counts_218, bX10_counts_227, uX10_counts_227, pvMk_t, pvMk_f, pvMk_n, pvRecv_r, pvUp_nl, pvUp_same, pvUp_ap, pvSt_ap, pvX_c, pvX_ms, pvX_mn, pvE_nil, pvEn_i, pvEn_r, pvEn_l, pvEn_0, pvEn_s, pvRt, pvRv, pvTh, pvKc, pvGo, pvTgt, Int.toNat_natCast, false_and, and_false, true_and, and_true, if_true, if_false, reduceIte, reduceCtorEq, forall_const, false_or, or_false, true_or, or_true, ne_eq, not_true_eq_false, not_false_eq_true, implies_true, false_implies, Nat.reduceAdd, Nat.reduceSub, Nat.reduceMul, Nat.reduceEqDiff, Nat.reduceLT, Nat.reduceLeDiff, Int.reduceAdd, Int.reduceSub, Int.reduceMul, Int.reduceNeg, Int.reduceToNat, Int.reduceLE, Int.reduceLT, Int.reduceEq, Int.reduceNe, and_self]
              (repeat' first | with_reducible apply And.intro | with_reducible intro _)
              all_goals first
                | omega
                | exact q9
        have pass : ∀ (mm i : Nat) (z2 : pvM), i + mm = 1472 → B z2 → z2.2.1 56 = z0.2.1 56 → (∀ W : Int → Int, smN (z2.2.1 57) (fun y => W (plX y)) 1472 = smN (z0.2.1 56) (fun y => sdK (fun a d => W (nxW A (plX y) a d)) (l + 1)) i) → (∀ i, i < 1472 → 0 ≤ z2.2.1 57 i) →
            SW 99 [some (vR 39), some (vI s), some (vI (e : Int)), some (vI (l : Int)), some (vI (k : Int)), some (vI (i : Int)), none] z2 := by
          intro mm
          induction mm using Nat.strongRecOn with
          | _ mm ihp =>
            intro i z2 hi b2 e56 p1 p2
            refine hc 20 _ _ _ fun _ _ => ?_
            simp only [pvSt1]
            by_cases hi2 : 1472 ≤ i
            · have ei : i = 1472 := by omega
              subst ei
              have q9 := copy 1472 0 z2 rfl b2 p1 p2 (fun j hj => absurd hj (Nat.not_lt_zero _))
              simp only [pvE_aload_n0, pvLA_s, pvLd, pvE_invokevirtual, pvC1_s, pvC2_s, pvAf_v, pvAf_x, pvPop, pvCs, pvCat, pvPush, aX10_counts_197, pvSh_0, pvSh_1, pvSh_2, pvSh_3, pvSh_4, pvSh_5, pvSh_6, pvSh_7, pvSh_8, pvSh_9, pvSh_10, pvSh_11, pvSh_12, pvSh_13, pvSh_14, pvSh_15, pvSh_16, pvSh_17, pvSh_18, pvSh_19, pvSh_20, pvSh_21, pvSh_22, pvSh_23, pvSh_24, pvSh_25, pvSh_26, pvSh_27, pvSh_28, pvSh_29, pvSh_30, pvSh_31, pvSh_32, pvSh_33, pvSh_34, pvSh_35, pvSh_36, pvSh_37, pvSh_38, pvSh_39, pvSh_40, pvSh_41, pvSh_42, pvSh_43, pvSh_44, pvSh_45, pvSh_46, pvSh_47, pvSh_48, pvSh_49, pvSh_50, pvSh_51, pvSh_52, pvSh_53, pvSh_54, pvSh_55, pvSh_56, pvSh_57, pvSh_58, pvSh_59, pvE_iconst, pvE_putfield, pvPf_0, pvPf_1, fX10_222, pvE_istore, pvS1, List.length_cons, List.length_nil, pvClr_i, pvClr_r, pvClr_l, pvClr_d, pvClr_f, pvClr_n, pvE_iload, pvLI_s, pvE_sipush, pvE_icmp_ge, pvE_getfield, pvGf_0, pvGf_1, pvGf_2, fX10_63, pvRf_0_0, pvRf_0_1, pvRf_0_2, pvRf_0_3, pvRf_0_4, pvRf_0_5, pvRf_0_6, pvRf_0_7, pvRf_0_8, pvRf_0_9, pvRf_0_10, pvRf_1_0, pvRf_3_0, pvRf_5_0, pvRf_5_1, pvRf_5_2, pvRf_9_0, pvRf_9_1, pvRf_9_2, pvRf_13_0, pvRf_13_1, pvRf_13_2, pvRf_17_0, pvRf_17_2, pvRf_20_0, pvRf_20_1, pvRf_20_2, pvRf_24_0, pvRf_24_1, pvRf_24_2, pvRf_28_0, pvRf_28_1, pvRf_28_2, pvRf_28_3, pvRf_33_0, pvRf_33_1, pvRf_36_0, pvRf_36_1, pvRf_39_0, pvRf_39_1, pvRf_39_2, pvRf_39_5, pvRf_39_6, pvRf_39_9, pvRf_39_13, pvRf_39_15, pvRf_39_16, pvRf_39_17, pvRf_39_19, pvRf_39_20, pvRf_39_22, pvRf_39_23, pvRf_39_24, pvRf_39_25, pvRf_39_29, pvRf_39_30, pvE_lconst0, pvE_lastore, pvAL, pvE_iinc, pvIc_s, pvE_goto, pvE_bipush, fX10_51, pvE_iaload, pvAI, pvE_imul, fX10_7, pvE_iload_n1, pvE_iadd, pvE_lconst1, pvE_iload_n2, fX10_66, pvE_laload, pvE_lcmp, pvE_if_le, pvE_iload_n3, aX10_counts_258, pvE_lstore, pvS2, pvE_lload, pvLL_s, pvE_irem, pvE_iand, pvE_if_eq, pvE_ladd, pvE_lreturn, bX10_counts_0, uX10_counts_0, bX10_counts_12, uX10_counts_12, bX10_counts_34, uX10_counts_34, bX10_counts_65, uX10_counts_65, bX10_counts_74, uX10_counts_74, bX10_counts_96, uX10_counts_96, bX10_counts_99, uX10_counts_99, bX10_counts_127, uX10_counts_127, bX10_counts_133, uX10_counts_133, bX10_counts_136, uX10_counts_136, bX10_counts_164, uX10_counts_164, bX10_counts_170, uX10_counts_170, bX10_counts_176, uX10_counts_176, bX10_counts_217, uX10_counts_217, bX10_counts_218, uX10_counts_218, bX10_counts_227, uX10_counts_227, pvMk_t, pvMk_f, pvMk_n, pvRecv_r, pvUp_nl, pvUp_same, pvUp_ap, pvSt_ap, pvX_c, pvX_ms, pvX_mn, pvE_nil, pvEn_i, pvEn_r, pvEn_l, pvEn_0, pvEn_s, pvRt, pvRv, pvTh, pvKc, pvGo, pvTgt, Int.toNat_natCast, false_and, and_false, true_and, and_true, if_true, if_false, reduceIte, reduceCtorEq, forall_const, false_or, or_false, true_or, or_true, ne_eq, not_true_eq_false, not_false_eq_true, implies_true, false_implies, Nat.reduceAdd, Nat.reduceSub, Nat.reduceMul, Nat.reduceEqDiff, Nat.reduceLT, Nat.reduceLeDiff, Int.reduceAdd, Int.reduceSub, Int.reduceMul, Int.reduceNeg, Int.reduceToNat, Int.reduceLE, Int.reduceLT, Int.reduceEq, Int.reduceNe, and_self]
              (repeat' first | with_reducible apply And.intro | with_reducible intro _)
              all_goals first
                | omega
                | exact q9
            · have hbi := hp i (by omega)
              rw [← e56] at hbi
              have q9 : z2.2.1 56 i = 0 → SW 99 [some (vR 39), some (vI s), some (vI (e : Int)), some (vI (l : Int)), some (vI (k : Int)), some (vI ((i : Int) + 1)), none] z2 := fun e0 => ihp (mm - 1) (by omega) (i + 1) z2 (by omega) b2 e56 (fun W => by
                rw [p1 W]
                show _ = smN _ _ i + _ * _
                rw [← e56, e0, Int.zero_mul]
                exact (Int.add_zero _).symm) p2
              have q8 : ∀ z'' : pvM, frF [] [57] z2 z'' → (∀ W : Int → Int, smN (z''.2.1 57) (fun y => W (plX y)) 1472 = smN (z2.2.1 57) (fun y => W (plX y)) 1472 + z2.2.1 56 i * sdK (fun a d => W (nxW A (plX (i : Int)) a d)) (l + 1)) → (0 ≤ z2.2.1 56 i → (∀ i, i < 1472 → 0 ≤ z2.2.1 57 i) → ∀ i, i < 1472 → 0 ≤ z''.2.1 57 i) → SW 99 [some (vR 39), some (vI s), some (vI (e : Int)), some (vI (l : Int)), some (vI (k : Int)), some (vI ((i : Int) + 1)), none] z'' := fun z'' f2 t1 t2 => ihp (mm - 1) (by omega) (i + 1) z'' (by omega) (bm _ _ b2 (frF_t frF_0 f2 (by simp) (by simp))) ((f2.2.1 56 (by simp)).trans e56) (fun W => by
                rw [t1 W, p1 W, e56]
                rfl) (t2 hbi.1 p2)
              obtain ⟨e40, e52, b48⟩ := b40 _ b2
              have eA2 : A = autR (z2.1 40) s := by rw [e40, eA]
              have hsm2 : smP z2 := by
                intro v hv
                rw [e52]
                exact hsm v hv
              simp only [C_X10_spreads, pvE_aload_n0, pvLA_s, pvLd, pvE_invokevirtual, pvC1_s, pvC2_s, pvAf_v, pvAf_x, pvPop, pvCs, pvCat, pvPush, aX10_counts_197, pvSh_0, pvSh_1, pvSh_2, pvSh_3, pvSh_4, pvSh_5, pvSh_6, pvSh_7, pvSh_8, pvSh_9, pvSh_10, pvSh_11, pvSh_12, pvSh_13, pvSh_14, pvSh_15, pvSh_16, pvSh_17, pvSh_18, pvSh_19, pvSh_20, pvSh_21, pvSh_22, pvSh_23, pvSh_24, pvSh_25, pvSh_26, pvSh_27, pvSh_28, pvSh_29, pvSh_30, pvSh_31, pvSh_32, pvSh_33, pvSh_34, pvSh_35, pvSh_36, pvSh_37, pvSh_38, pvSh_39, pvSh_40, pvSh_41, pvSh_42, pvSh_43, pvSh_44, pvSh_45, pvSh_46, pvSh_47, pvSh_48, pvSh_49, pvSh_50, pvSh_51, pvSh_52, pvSh_53, pvSh_54, pvSh_55, pvSh_56, pvSh_57, pvSh_58, pvSh_59, pvE_iconst, pvE_putfield, pvPf_0, pvPf_1, fX10_222, pvE_istore, pvS1, List.length_cons, List.length_nil, pvClr_i, pvClr_r, pvClr_l, pvClr_d, pvClr_f, pvClr_n, pvE_iload, pvLI_s, pvE_sipush, pvE_icmp_ge, pvE_getfield, pvGf_0, pvGf_1, pvGf_2, fX10_63, pvRf_0_0, pvRf_0_1, pvRf_0_2, pvRf_0_3, pvRf_0_4, pvRf_0_5, pvRf_0_6, pvRf_0_7, pvRf_0_8, pvRf_0_9, pvRf_0_10, pvRf_1_0, pvRf_3_0, pvRf_5_0, pvRf_5_1, pvRf_5_2, pvRf_9_0, pvRf_9_1, pvRf_9_2, pvRf_13_0, pvRf_13_1, pvRf_13_2, pvRf_17_0, pvRf_17_2, pvRf_20_0, pvRf_20_1, pvRf_20_2, pvRf_24_0, pvRf_24_1, pvRf_24_2, pvRf_28_0, pvRf_28_1, pvRf_28_2, pvRf_28_3, pvRf_33_0, pvRf_33_1, pvRf_36_0, pvRf_36_1, pvRf_39_0, pvRf_39_1, pvRf_39_2, pvRf_39_5, pvRf_39_6, pvRf_39_9, pvRf_39_13, pvRf_39_15, pvRf_39_16, pvRf_39_17, pvRf_39_19, pvRf_39_20, pvRf_39_22, pvRf_39_23, pvRf_39_24, pvRf_39_25, pvRf_39_29, pvRf_39_30, pvE_lconst0, pvE_lastore, pvAL, pvE_iinc, pvIc_s, pvE_goto, pvE_bipush, fX10_51, pvE_iaload, pvAI, pvE_imul, fX10_7, pvE_iload_n1, pvE_iadd, pvE_lconst1, pvE_iload_n2, fX10_66, pvE_laload, pvE_lcmp, pvE_if_le, pvE_iload_n3, aX10_counts_258, pvE_lstore, pvS2, pvE_lload, pvLL_s, pvE_irem, pvE_iand, pvE_if_eq, pvE_ladd, pvE_lreturn, bX10_counts_0, uX10_counts_0, bX10_counts_12, uX10_counts_12, bX10_counts_34, uX10_counts_34, bX10_counts_65, uX10_counts_65, bX10_counts_74, uX10_counts_74, bX10_counts_96, uX10_counts_96, bX10_counts_99, uX10_counts_99, bX10_counts_127, uX10_counts_127, bX10_counts_133, uX10_counts_133, bX10_counts_136, uX10_counts_136, bX10_counts_164, uX10_counts_164, bX10_counts_170, uX10_counts_170, bX10_counts_176, uX10_counts_176, bX10_counts_217, uX10_counts_217, bX10_counts_218, uX10_counts_218, bX10_counts_227, uX10_counts_227, pvMk_t, pvMk_f, pvMk_n, pvRecv_r, pvUp_nl, pvUp_same, pvUp_ap, pvSt_ap, pvX_c, pvX_ms, pvX_mn, pvE_nil, pvEn_i, pvEn_r, pvEn_l, pvEn_0, pvEn_s, pvRt, pvRv, pvTh, pvKc, pvGo, pvTgt, Int.toNat_natCast, false_and, and_false, true_and, and_true, if_true, if_false, reduceIte, reduceCtorEq, forall_const, false_or, or_false, true_or, or_true, ne_eq, not_true_eq_false, not_false_eq_true, implies_true, false_implies, Nat.reduceAdd, Nat.reduceSub, Nat.reduceMul, Nat.reduceEqDiff, Nat.reduceLT, Nat.reduceLeDiff, Int.reduceAdd, Int.reduceSub, Int.reduceMul, Int.reduceNeg, Int.reduceToNat, Int.reduceLE, Int.reduceLT, Int.reduceEq, Int.reduceNe, and_self]
              (repeat' first | with_reducible apply And.intro | with_reducible intro _)
              all_goals first
                | omega
                | (exact q9 (by omega))
                | skip
              refine ⟨A, ⟨eA2, hs, wA, b48, hsm2, by omega, by omega⟩, fun z'' f2 t1 t2 => ⟨by omega, q8 z'' f2 t1 t2⟩⟩
        have clr : ∀ (mm i : Nat) (z1 : pvM), i + mm = 1472 → B z1 → z1.2.1 56 = z0.2.1 56 → (∀ j, j < i → z1.2.1 57 j = 0) →
            SW 74 [some (vR 39), some (vI s), some (vI (e : Int)), some (vI (l : Int)), some (vI (k : Int)), some (vI (i : Int)), none] z1 := by
          intro mm
          induction mm using Nat.strongRecOn with
          | _ mm ihz =>
            intro i z1 hi b1 e56 t1
            refine hc 20 _ _ _ fun _ _ => ?_
            simp only [pvSt1]
            simp only [pvE_aload_n0, pvLA_s, pvLd, pvE_invokevirtual, pvC1_s, pvC2_s, pvAf_v, pvAf_x, pvPop, pvCs, pvCat, pvPush, aX10_counts_197, pvSh_0, pvSh_1, pvSh_2, pvSh_3, pvSh_4, pvSh_5, pvSh_6, pvSh_7, pvSh_8, pvSh_9, pvSh_10, pvSh_11, pvSh_12, pvSh_13, pvSh_14, pvSh_15, pvSh_16, pvSh_17, pvSh_18, pvSh_19, pvSh_20, pvSh_21, pvSh_22, pvSh_23, pvSh_24, pvSh_25, pvSh_26, pvSh_27, pvSh_28, pvSh_29, pvSh_30, pvSh_31, pvSh_32, pvSh_33, pvSh_34, pvSh_35, pvSh_36, pvSh_37, pvSh_38, pvSh_39, pvSh_40, pvSh_41, pvSh_42, pvSh_43, pvSh_44, pvSh_45, pvSh_46, pvSh_47, pvSh_48, pvSh_49, pvSh_50, pvSh_51, pvSh_52, pvSh_53, pvSh_54, pvSh_55, pvSh_56, pvSh_57, pvSh_58, pvSh_59, pvE_iconst, pvE_putfield, pvPf_0, pvPf_1, fX10_222, pvE_istore, pvS1, List.length_cons, List.length_nil, pvClr_i, pvClr_r, pvClr_l, pvClr_d, pvClr_f, pvClr_n, pvE_iload, pvLI_s, pvE_sipush, pvE_icmp_ge, pvE_getfield, pvGf_0, pvGf_1, pvGf_2, fX10_63, pvRf_0_0, pvRf_0_1, pvRf_0_2, pvRf_0_3, pvRf_0_4, pvRf_0_5, pvRf_0_6, pvRf_0_7, pvRf_0_8, pvRf_0_9, pvRf_0_10, pvRf_1_0, pvRf_3_0, pvRf_5_0, pvRf_5_1, pvRf_5_2, pvRf_9_0, pvRf_9_1, pvRf_9_2, pvRf_13_0, pvRf_13_1, pvRf_13_2, pvRf_17_0, pvRf_17_2, pvRf_20_0, pvRf_20_1, pvRf_20_2, pvRf_24_0, pvRf_24_1, pvRf_24_2, pvRf_28_0, pvRf_28_1, pvRf_28_2, pvRf_28_3, pvRf_33_0, pvRf_33_1, pvRf_36_0, pvRf_36_1, pvRf_39_0, pvRf_39_1, pvRf_39_2, pvRf_39_5, pvRf_39_6, pvRf_39_9, pvRf_39_13, pvRf_39_15, pvRf_39_16, pvRf_39_17, pvRf_39_19, pvRf_39_20, pvRf_39_22, pvRf_39_23, pvRf_39_24, pvRf_39_25, pvRf_39_29, pvRf_39_30, pvE_lconst0, pvE_lastore, pvAL, pvE_iinc, pvIc_s, pvE_goto, pvE_bipush, fX10_51, pvE_iaload, pvAI, pvE_imul, fX10_7, pvE_iload_n1, pvE_iadd, pvE_lconst1, pvE_iload_n2, fX10_66, pvE_laload, pvE_lcmp, pvE_if_le, pvE_iload_n3, aX10_counts_258, pvE_lstore, pvS2, pvE_lload, pvLL_s, pvE_irem, pvE_iand, pvE_if_eq, pvE_ladd, pvE_lreturn, bX10_counts_0, uX10_counts_0, bX10_counts_12, uX10_counts_12, bX10_counts_34, uX10_counts_34, bX10_counts_65, uX10_counts_65, bX10_counts_74, uX10_counts_74, bX10_counts_96, uX10_counts_96, bX10_counts_99, uX10_counts_99, bX10_counts_127, uX10_counts_127, bX10_counts_133, uX10_counts_133, bX10_counts_136, uX10_counts_136, bX10_counts_164, uX10_counts_164, bX10_counts_170, uX10_counts_170, bX10_counts_176, uX10_counts_176, bX10_counts_217, uX10_counts_217, bX10_counts_218, uX10_counts_218, bX10_counts_227, uX10_counts_227, pvMk_t, pvMk_f, pvMk_n, pvRecv_r, pvUp_nl, pvUp_same, pvUp_ap, pvSt_ap, pvX_c, pvX_ms, pvX_mn, pvE_nil, pvEn_i, pvEn_r, pvEn_l, pvEn_0, pvEn_s, pvRt, pvRv, pvTh, pvKc, pvGo, pvTgt, Int.toNat_natCast, false_and, and_false, true_and, and_true, if_true, if_false, reduceIte, reduceCtorEq, forall_const, false_or, or_false, true_or, or_true, ne_eq, not_true_eq_false, not_false_eq_true, implies_true, false_implies, Nat.reduceAdd, Nat.reduceSub, Nat.reduceMul, Nat.reduceEqDiff, Nat.reduceLT, Nat.reduceLeDiff, Int.reduceAdd, Int.reduceSub, Int.reduceMul, Int.reduceNeg, Int.reduceToNat, Int.reduceLE, Int.reduceLT, Int.reduceEq, Int.reduceNe, and_self]
            by_cases hi2 : 1472 ≤ i
            · have q9 := pass 1472 0 z1 rfl b1 e56 (fun W => by
                rw [smN_0 1472 (fun j hj => t1 j (by omega))]
                rfl) (fun j hj => by rw [t1 j (by omega)]; exact Int.le_refl _)
              (repeat' first | with_reducible apply And.intro | with_reducible intro _)
              all_goals first
                | omega
                | exact q9
            · have e57 : (pvUp z1.2.1 57 i 0) 56 = z1.2.1 56 := pvUp_ne (by decide)
              have q9 := ihz (mm - 1) (by omega) (i + 1) (z1.1, pvUp z1.2.1 57 i 0, z1.2.2) (by omega) (bm _ _ b1 (frF_l frF_0 (by simp))) (e57.trans e56) (fun j hj => by
                show pvUp z1.2.1 57 i 0 57 j = 0
                simp only [pvUp_ap, true_and]
                split
                · rfl
                · exact t1 j (by omega))
              (repeat' first | with_reducible apply And.intro | with_reducible intro _)
              all_goals first
                | omega
                | exact q9
        refine hc 20 _ _ _ fun _ _ => ?_
        simp only [pvSt1]
        have q9 := clr 1472 0 z0 rfl f1 rfl (fun j hj => absurd hj (Nat.not_lt_zero _))
        simp only [pvE_aload_n0, pvLA_s, pvLd, pvE_invokevirtual, pvC1_s, pvC2_s, pvAf_v, pvAf_x, pvPop, pvCs, pvCat, pvPush, aX10_counts_197, pvSh_0, pvSh_1, pvSh_2, pvSh_3, pvSh_4, pvSh_5, pvSh_6, pvSh_7, pvSh_8, pvSh_9, pvSh_10, pvSh_11, pvSh_12, pvSh_13, pvSh_14, pvSh_15, pvSh_16, pvSh_17, pvSh_18, pvSh_19, pvSh_20, pvSh_21, pvSh_22, pvSh_23, pvSh_24, pvSh_25, pvSh_26, pvSh_27, pvSh_28, pvSh_29, pvSh_30, pvSh_31, pvSh_32, pvSh_33, pvSh_34, pvSh_35, pvSh_36, pvSh_37, pvSh_38, pvSh_39, pvSh_40, pvSh_41, pvSh_42, pvSh_43, pvSh_44, pvSh_45, pvSh_46, pvSh_47, pvSh_48, pvSh_49, pvSh_50, pvSh_51, pvSh_52, pvSh_53, pvSh_54, pvSh_55, pvSh_56, pvSh_57, pvSh_58, pvSh_59, pvE_iconst, pvE_putfield, pvPf_0, pvPf_1, fX10_222, pvE_istore, pvS1, List.length_cons, List.length_nil, pvClr_i, pvClr_r, pvClr_l, pvClr_d, pvClr_f, pvClr_n, pvE_iload, pvLI_s, pvE_sipush, pvE_icmp_ge, pvE_getfield, pvGf_0, pvGf_1, pvGf_2, fX10_63, pvRf_0_0, pvRf_0_1, pvRf_0_2, pvRf_0_3, pvRf_0_4, pvRf_0_5, pvRf_0_6, pvRf_0_7, pvRf_0_8, pvRf_0_9, pvRf_0_10, pvRf_1_0, pvRf_3_0, pvRf_5_0, pvRf_5_1, pvRf_5_2, pvRf_9_0, pvRf_9_1, pvRf_9_2, pvRf_13_0, pvRf_13_1, pvRf_13_2, pvRf_17_0, pvRf_17_2, pvRf_20_0, pvRf_20_1, pvRf_20_2, pvRf_24_0, pvRf_24_1, pvRf_24_2, pvRf_28_0, pvRf_28_1, pvRf_28_2, pvRf_28_3, pvRf_33_0, pvRf_33_1, pvRf_36_0, pvRf_36_1, pvRf_39_0, pvRf_39_1, pvRf_39_2, pvRf_39_5, pvRf_39_6, pvRf_39_9, pvRf_39_13, pvRf_39_15, pvRf_39_16, pvRf_39_17, pvRf_39_19, pvRf_39_20, pvRf_39_22, pvRf_39_23, pvRf_39_24, pvRf_39_25, pvRf_39_29, pvRf_39_30, pvE_lconst0, pvE_lastore, pvAL, pvE_iinc, pvIc_s, pvE_goto, pvE_bipush, fX10_51, pvE_iaload, pvAI, pvE_imul, fX10_7, pvE_iload_n1, pvE_iadd, pvE_lconst1, pvE_iload_n2, fX10_66, pvE_laload, pvE_lcmp, pvE_if_le, pvE_iload_n3, aX10_counts_258, pvE_lstore, pvS2, pvE_lload, pvLL_s, pvE_irem, pvE_iand, pvE_if_eq, pvE_ladd, pvE_lreturn, bX10_counts_0, uX10_counts_0, bX10_counts_12, uX10_counts_12, bX10_counts_34, uX10_counts_34, bX10_counts_65, uX10_counts_65, bX10_counts_74, uX10_counts_74, bX10_counts_96, uX10_counts_96, bX10_counts_99, uX10_counts_99, bX10_counts_127, uX10_counts_127, bX10_counts_133, uX10_counts_133, bX10_counts_136, uX10_counts_136, bX10_counts_164, uX10_counts_164, bX10_counts_170, uX10_counts_170, bX10_counts_176, uX10_counts_176, bX10_counts_217, uX10_counts_217, bX10_counts_218, uX10_counts_218, bX10_counts_227, uX10_counts_227, pvMk_t, pvMk_f, pvMk_n, pvRecv_r, pvUp_nl, pvUp_same, pvUp_ap, pvSt_ap, pvX_c, pvX_ms, pvX_mn, pvE_nil, pvEn_i, pvEn_r, pvEn_l, pvEn_0, pvEn_s, pvRt, pvRv, pvTh, pvKc, pvGo, pvTgt, Int.toNat_natCast, false_and, and_false, true_and, and_true, if_true, if_false, reduceIte, reduceCtorEq, forall_const, false_or, or_false, true_or, or_true, ne_eq, not_true_eq_false, not_false_eq_true, implies_true, false_implies, Nat.reduceAdd, Nat.reduceSub, Nat.reduceMul, Nat.reduceEqDiff, Nat.reduceLT, Nat.reduceLeDiff, Int.reduceAdd, Int.reduceSub, Int.reduceMul, Int.reduceNeg, Int.reduceToNat, Int.reduceLE, Int.reduceLT, Int.reduceEq, Int.reduceNe, and_self]
        (repeat' first | with_reducible apply And.intro | with_reducible intro _)
        all_goals first
          | omega
          | exact q9
    have first : ∀ (m i : Nat) (z' : pvM), i + m = 1472 → B z' → (∀ j, j < i → z'.2.1 56 j = 0) →
        SW 12 [some (vR 39), some (vI s), some (vI (e : Int)), some (vI (l : Int)), some (vI (i : Int)), none, none] z' := by
      intro m
      induction m using Nat.strongRecOn with
      | _ m ih =>
        intro i z' hi f1 o1
        refine hc 20 _ _ _ fun _ _ => ?_
        simp only [pvSt1]
        obtain ⟨e40, e52, _⟩ := b40 _ f1
        have e215 : z'.1 52 215 = 91 := by
          rw [e52]
          have := hsm 215 (by decide)
          rw [if_pos (by decide +kernel)] at this
          rw [this]
          decide +kernel
        by_cases hi2 : 1472 ≤ i
        · have hpl : plX (((1456 + A.2.1).toNat : Nat) : Int) = 3440 + A.2.1 := by
            have h := plX_e (v := 215) (s := A.2.1) ⟨by decide, by decide⟩ w21
            rw [show smR (215 : Int).toNat = 91 by decide +kernel] at h
            rw [show (((1456 + A.2.1).toNat : Nat) : Int) = 16 * 91 + A.2.1 by omega, h]
            omega
          have hfe : ∀ i, (pvUp z'.2.1 56 (1456 + A.2.1).toNat 1) 56 i = if i = (1456 + A.2.1).toNat then 1 else z'.2.1 56 i := by
            intro k
            simp only [pvUp_ap, true_and]
          have hz0 : ∀ i, i < 1472 → z'.2.1 56 i = 0 := fun j hj => o1 j (by omega)
          have hsu : ∀ W : Int → Int, smN ((pvUp z'.2.1 56 (1456 + A.2.1).toNat 1) 56) (fun y => W (plX y)) 1472 = W (3440 + A.2.1) := fun W => by
            rw [smN_one (by omega) hz0 hfe, hpl]
          have q9 := evs e 0 (z'.1, pvUp z'.2.1 56 (1456 + A.2.1).toNat 1, z'.2.2) (by omega) (bm _ _ f1 (frF_l frF_0 (by simp))) (hsu _) (Int.le_of_eq (hsu (fun _ => 1))) (fun j hj => by
            show 0 ≤ (pvUp z'.2.1 56 (1456 + A.2.1).toNat 1) 56 j
            rw [hfe, hz0 j hj]
            split <;> decide)
          simp only [e40, gi, e215, pvE_aload_n0, pvLA_s, pvLd, pvE_invokevirtual, pvC1_s, pvC2_s, pvAf_v, pvAf_x, pvPop, pvCs, pvCat, pvPush, aX10_counts_197, pvSh_0, pvSh_1, pvSh_2, pvSh_3, pvSh_4, pvSh_5, pvSh_6, pvSh_7, pvSh_8, pvSh_9, pvSh_10, pvSh_11, pvSh_12, pvSh_13, pvSh_14, pvSh_15, pvSh_16, pvSh_17, pvSh_18, pvSh_19, pvSh_20, pvSh_21, pvSh_22, pvSh_23, pvSh_24, pvSh_25, pvSh_26, pvSh_27, pvSh_28, pvSh_29, pvSh_30, pvSh_31, pvSh_32, pvSh_33, pvSh_34, pvSh_35, pvSh_36, pvSh_37, pvSh_38, pvSh_39, pvSh_40, pvSh_41, pvSh_42, pvSh_43, pvSh_44, pvSh_45, pvSh_46, pvSh_47, pvSh_48, pvSh_49, pvSh_50, pvSh_51, pvSh_52, pvSh_53, pvSh_54, pvSh_55, pvSh_56, pvSh_57, pvSh_58, pvSh_59, pvE_iconst, pvE_putfield, pvPf_0, pvPf_1, fX10_222, pvE_istore, pvS1, List.length_cons, List.length_nil, pvClr_i, pvClr_r, pvClr_l, pvClr_d, pvClr_f, pvClr_n, pvE_iload, pvLI_s, pvE_sipush, pvE_icmp_ge, pvE_getfield, pvGf_0, pvGf_1, pvGf_2, fX10_63, pvRf_0_0, pvRf_0_1, pvRf_0_2, pvRf_0_3, pvRf_0_4, pvRf_0_5, pvRf_0_6, pvRf_0_7, pvRf_0_8, pvRf_0_9, pvRf_0_10, pvRf_1_0, pvRf_3_0, pvRf_5_0, pvRf_5_1, pvRf_5_2, pvRf_9_0, pvRf_9_1, pvRf_9_2, pvRf_13_0, pvRf_13_1, pvRf_13_2, pvRf_17_0, pvRf_17_2, pvRf_20_0, pvRf_20_1, pvRf_20_2, pvRf_24_0, pvRf_24_1, pvRf_24_2, pvRf_28_0, pvRf_28_1, pvRf_28_2, pvRf_28_3, pvRf_33_0, pvRf_33_1, pvRf_36_0, pvRf_36_1, pvRf_39_0, pvRf_39_1, pvRf_39_2, pvRf_39_5, pvRf_39_6, pvRf_39_9, pvRf_39_13, pvRf_39_15, pvRf_39_16, pvRf_39_17, pvRf_39_19, pvRf_39_20, pvRf_39_22, pvRf_39_23, pvRf_39_24, pvRf_39_25, pvRf_39_29, pvRf_39_30, pvE_lconst0, pvE_lastore, pvAL, pvE_iinc, pvIc_s, pvE_goto, pvE_bipush, fX10_51, pvE_iaload, pvAI, pvE_imul, fX10_7, pvE_iload_n1, pvE_iadd, pvE_lconst1, pvE_iload_n2, fX10_66, pvE_laload, pvE_lcmp, pvE_if_le, pvE_iload_n3, aX10_counts_258, pvE_lstore, pvS2, pvE_lload, pvLL_s, pvE_irem, pvE_iand, pvE_if_eq, pvE_ladd, pvE_lreturn, bX10_counts_0, uX10_counts_0, bX10_counts_12, uX10_counts_12, bX10_counts_34, uX10_counts_34, bX10_counts_65, uX10_counts_65, bX10_counts_74, uX10_counts_74, bX10_counts_96, uX10_counts_96, bX10_counts_99, uX10_counts_99, bX10_counts_127, uX10_counts_127, bX10_counts_133, uX10_counts_133, bX10_counts_136, uX10_counts_136, bX10_counts_164, uX10_counts_164, bX10_counts_170, uX10_counts_170, bX10_counts_176, uX10_counts_176, bX10_counts_217, uX10_counts_217, bX10_counts_218, uX10_counts_218, bX10_counts_227, uX10_counts_227, pvMk_t, pvMk_f, pvMk_n, pvRecv_r, pvUp_nl, pvUp_same, pvUp_ap, pvSt_ap, pvX_c, pvX_ms, pvX_mn, pvE_nil, pvEn_i, pvEn_r, pvEn_l, pvEn_0, pvEn_s, pvRt, pvRv, pvTh, pvKc, pvGo, pvTgt, Int.toNat_natCast, false_and, and_false, true_and, and_true, if_true, if_false, reduceIte, reduceCtorEq, forall_const, false_or, or_false, true_or, or_true, ne_eq, not_true_eq_false, not_false_eq_true, implies_true, false_implies, Nat.reduceAdd, Nat.reduceSub, Nat.reduceMul, Nat.reduceEqDiff, Nat.reduceLT, Nat.reduceLeDiff, Int.reduceAdd, Int.reduceSub, Int.reduceMul, Int.reduceNeg, Int.reduceToNat, Int.reduceLE, Int.reduceLT, Int.reduceEq, Int.reduceNe, and_self]
          (repeat' first | with_reducible apply And.intro | with_reducible intro _)
          all_goals first
            | omega
            | exact q9
        · have q9 := ih (m - 1) (by omega) (i + 1) (z'.1, pvUp z'.2.1 56 i 0, z'.2.2) (by omega) (bm _ _ f1 (frF_l frF_0 (by simp))) (fun j hj => by
            show pvUp z'.2.1 56 i 0 56 j = 0
            simp only [pvUp_ap, true_and]
            split
            · rfl
            · exact o1 j (by omega))
          simp only [pvE_aload_n0, pvLA_s, pvLd, pvE_invokevirtual, pvC1_s, pvC2_s, pvAf_v, pvAf_x, pvPop, pvCs, pvCat, pvPush, aX10_counts_197, pvSh_0, pvSh_1, pvSh_2, pvSh_3, pvSh_4, pvSh_5, pvSh_6, pvSh_7, pvSh_8, pvSh_9, pvSh_10, pvSh_11, pvSh_12, pvSh_13, pvSh_14, pvSh_15, pvSh_16, pvSh_17, pvSh_18, pvSh_19, pvSh_20, pvSh_21, pvSh_22, pvSh_23, pvSh_24, pvSh_25, pvSh_26, pvSh_27, pvSh_28, pvSh_29, pvSh_30, pvSh_31, pvSh_32, pvSh_33, pvSh_34, pvSh_35, pvSh_36, pvSh_37, pvSh_38, pvSh_39, pvSh_40, pvSh_41, pvSh_42, pvSh_43, pvSh_44, pvSh_45, pvSh_46, pvSh_47, pvSh_48, pvSh_49, pvSh_50, pvSh_51, pvSh_52, pvSh_53, pvSh_54, pvSh_55, pvSh_56, pvSh_57, pvSh_58, pvSh_59, pvE_iconst, pvE_putfield, pvPf_0, pvPf_1, fX10_222, pvE_istore, pvS1, List.length_cons, List.length_nil, pvClr_i, pvClr_r, pvClr_l, pvClr_d, pvClr_f, pvClr_n, pvE_iload, pvLI_s, pvE_sipush, pvE_icmp_ge, pvE_getfield, pvGf_0, pvGf_1, pvGf_2, fX10_63, pvRf_0_0, pvRf_0_1, pvRf_0_2, pvRf_0_3, pvRf_0_4, pvRf_0_5, pvRf_0_6, pvRf_0_7, pvRf_0_8, pvRf_0_9, pvRf_0_10, pvRf_1_0, pvRf_3_0, pvRf_5_0, pvRf_5_1, pvRf_5_2, pvRf_9_0, pvRf_9_1, pvRf_9_2, pvRf_13_0, pvRf_13_1, pvRf_13_2, pvRf_17_0, pvRf_17_2, pvRf_20_0, pvRf_20_1, pvRf_20_2, pvRf_24_0, pvRf_24_1, pvRf_24_2, pvRf_28_0, pvRf_28_1, pvRf_28_2, pvRf_28_3, pvRf_33_0, pvRf_33_1, pvRf_36_0, pvRf_36_1, pvRf_39_0, pvRf_39_1, pvRf_39_2, pvRf_39_5, pvRf_39_6, pvRf_39_9, pvRf_39_13, pvRf_39_15, pvRf_39_16, pvRf_39_17, pvRf_39_19, pvRf_39_20, pvRf_39_22, pvRf_39_23, pvRf_39_24, pvRf_39_25, pvRf_39_29, pvRf_39_30, pvE_lconst0, pvE_lastore, pvAL, pvE_iinc, pvIc_s, pvE_goto, pvE_bipush, fX10_51, pvE_iaload, pvAI, pvE_imul, fX10_7, pvE_iload_n1, pvE_iadd, pvE_lconst1, pvE_iload_n2, fX10_66, pvE_laload, pvE_lcmp, pvE_if_le, pvE_iload_n3, aX10_counts_258, pvE_lstore, pvS2, pvE_lload, pvLL_s, pvE_irem, pvE_iand, pvE_if_eq, pvE_ladd, pvE_lreturn, bX10_counts_0, uX10_counts_0, bX10_counts_12, uX10_counts_12, bX10_counts_34, uX10_counts_34, bX10_counts_65, uX10_counts_65, bX10_counts_74, uX10_counts_74, bX10_counts_96, uX10_counts_96, bX10_counts_99, uX10_counts_99, bX10_counts_127, uX10_counts_127, bX10_counts_133, uX10_counts_133, bX10_counts_136, uX10_counts_136, bX10_counts_164, uX10_counts_164, bX10_counts_170, uX10_counts_170, bX10_counts_176, uX10_counts_176, bX10_counts_217, uX10_counts_217, bX10_counts_218, uX10_counts_218, bX10_counts_227, uX10_counts_227, pvMk_t, pvMk_f, pvMk_n, pvRecv_r, pvUp_nl, pvUp_same, pvUp_ap, pvSt_ap, pvX_c, pvX_ms, pvX_mn, pvE_nil, pvEn_i, pvEn_r, pvEn_l, pvEn_0, pvEn_s, pvRt, pvRv, pvTh, pvKc, pvGo, pvTgt, Int.toNat_natCast, false_and, and_false, true_and, and_true, if_true, if_false, reduceIte, reduceCtorEq, forall_const, false_or, or_false, true_or, or_true, ne_eq, not_true_eq_false, not_false_eq_true, implies_true, false_implies, Nat.reduceAdd, Nat.reduceSub, Nat.reduceMul, Nat.reduceEqDiff, Nat.reduceLT, Nat.reduceLeDiff, Int.reduceAdd, Int.reduceSub, Int.reduceMul, Int.reduceNeg, Int.reduceToNat, Int.reduceLE, Int.reduceLT, Int.reduceEq, Int.reduceNe, and_self]
          (repeat' first | with_reducible apply And.intro | with_reducible intro _)
          all_goals first
            | omega
            | exact q9
    refine hc 20 _ _ _ fun _ _ => ?_
    simp only [pvSt1]
    have q9 : ∀ z' : pvM, frF [48] [] z z' → (∀ s : Int, 0 ≤ s ∧ s ≤ 1 → ldP (z'.1 48) s (autR (z.1 40) s)) → SW 12 [some (vR 39), some (vI s), some (vI (e : Int)), some (vI (l : Int)), some (vI 0), none, none] (pvUp z'.1 39 28 0, z'.2) := fun z' f1 l1 => first 1472 0 (pvUp z'.1 39 28 0, z'.2) rfl (by
        rw [hB]
        refine ⟨?_, fun j hj => ?_, ?_⟩
        · have f2 : frF [39, 48] [56, 57] z z' := frF_t frF_0 f1 (by simp) (by simp)
          exact frF_u f2 (by simp)
        · show pvUp z'.1 39 28 0 39 j = _
          simp only [pvUp_ap, true_and]
          rw [if_neg hj, f1.1 39 (by simp)]
        · show ldP (pvUp z'.1 39 28 0 48) s A
          rw [pvUp_ne (by decide), ← eA]
          exact l1 s hs) (fun j hj => absurd hj (Nat.not_lt_zero _))
    simp only [C_X10_laysLeads, pvE_aload_n0, pvLA_s, pvLd, pvE_invokevirtual, pvC1_s, pvC2_s, pvAf_v, pvAf_x, pvPop, pvCs, pvCat, pvPush, aX10_counts_197, pvSh_0, pvSh_1, pvSh_2, pvSh_3, pvSh_4, pvSh_5, pvSh_6, pvSh_7, pvSh_8, pvSh_9, pvSh_10, pvSh_11, pvSh_12, pvSh_13, pvSh_14, pvSh_15, pvSh_16, pvSh_17, pvSh_18, pvSh_19, pvSh_20, pvSh_21, pvSh_22, pvSh_23, pvSh_24, pvSh_25, pvSh_26, pvSh_27, pvSh_28, pvSh_29, pvSh_30, pvSh_31, pvSh_32, pvSh_33, pvSh_34, pvSh_35, pvSh_36, pvSh_37, pvSh_38, pvSh_39, pvSh_40, pvSh_41, pvSh_42, pvSh_43, pvSh_44, pvSh_45, pvSh_46, pvSh_47, pvSh_48, pvSh_49, pvSh_50, pvSh_51, pvSh_52, pvSh_53, pvSh_54, pvSh_55, pvSh_56, pvSh_57, pvSh_58, pvSh_59, pvE_iconst, pvE_putfield, pvPf_0, pvPf_1, fX10_222, pvE_istore, pvS1, List.length_cons, List.length_nil, pvClr_i, pvClr_r, pvClr_l, pvClr_d, pvClr_f, pvClr_n, pvE_iload, pvLI_s, pvE_sipush, pvE_icmp_ge, pvE_getfield, pvGf_0, pvGf_1, pvGf_2, fX10_63, pvRf_0_0, pvRf_0_1, pvRf_0_2, pvRf_0_3, pvRf_0_4, pvRf_0_5, pvRf_0_6, pvRf_0_7, pvRf_0_8, pvRf_0_9, pvRf_0_10, pvRf_1_0, pvRf_3_0, pvRf_5_0, pvRf_5_1, pvRf_5_2, pvRf_9_0, pvRf_9_1, pvRf_9_2, pvRf_13_0, pvRf_13_1, pvRf_13_2, pvRf_17_0, pvRf_17_2, pvRf_20_0, pvRf_20_1, pvRf_20_2, pvRf_24_0, pvRf_24_1, pvRf_24_2, pvRf_28_0, pvRf_28_1, pvRf_28_2, pvRf_28_3, pvRf_33_0, pvRf_33_1, pvRf_36_0, pvRf_36_1, pvRf_39_0, pvRf_39_1, pvRf_39_2, pvRf_39_5, pvRf_39_6, pvRf_39_9, pvRf_39_13, pvRf_39_15, pvRf_39_16, pvRf_39_17, pvRf_39_19, pvRf_39_20, pvRf_39_22, pvRf_39_23, pvRf_39_24, pvRf_39_25, pvRf_39_29, pvRf_39_30, pvE_lconst0, pvE_lastore, pvAL, pvE_iinc, pvIc_s, pvE_goto, pvE_bipush, fX10_51, pvE_iaload, pvAI, pvE_imul, fX10_7, pvE_iload_n1, pvE_iadd, pvE_lconst1, pvE_iload_n2, fX10_66, pvE_laload, pvE_lcmp, pvE_if_le, pvE_iload_n3, aX10_counts_258, pvE_lstore, pvS2, pvE_lload, pvLL_s, pvE_irem, pvE_iand, pvE_if_eq, pvE_ladd, pvE_lreturn, bX10_counts_0, uX10_counts_0, bX10_counts_12, uX10_counts_12, bX10_counts_34, uX10_counts_34, bX10_counts_65, uX10_counts_65, bX10_counts_74, uX10_counts_74, bX10_counts_96, uX10_counts_96, bX10_counts_99, uX10_counts_99, bX10_counts_127, uX10_counts_127, bX10_counts_133, uX10_counts_133, bX10_counts_136, uX10_counts_136, bX10_counts_164, uX10_counts_164, bX10_counts_170, uX10_counts_170, bX10_counts_176, uX10_counts_176, bX10_counts_217, uX10_counts_217, bX10_counts_218, uX10_counts_218, bX10_counts_227, uX10_counts_227, pvMk_t, pvMk_f, pvMk_n, pvRecv_r, pvUp_nl, pvUp_same, pvUp_ap, pvSt_ap, pvX_c, pvX_ms, pvX_mn, pvE_nil, pvEn_i, pvEn_r, pvEn_l, pvEn_0, pvEn_s, pvRt, pvRv, pvTh, pvKc, pvGo, pvTgt, Int.toNat_natCast, false_and, and_false, true_and, and_true, if_true, if_false, reduceIte, reduceCtorEq, forall_const, false_or, or_false, true_or, or_true, ne_eq, not_true_eq_false, not_false_eq_true, implies_true, false_implies, Nat.reduceAdd, Nat.reduceSub, Nat.reduceMul, Nat.reduceEqDiff, Nat.reduceLT, Nat.reduceLeDiff, Int.reduceAdd, Int.reduceSub, Int.reduceMul, Int.reduceNeg, Int.reduceToNat, Int.reduceLE, Int.reduceLT, Int.reduceEq, Int.reduceNe, and_self]
    (repeat' first | with_reducible apply And.intro | with_reducible intro _)
    all_goals first
      | omega
      | exact hW _ (by assumption)
      | exact q9 _ (by assumption) (by assumption)
  · exact h.elim
