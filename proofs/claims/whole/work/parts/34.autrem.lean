/-! the class's automaton: a transition removed -/
theorem pvUp_st {f : Nat → Nat → Int} {i k : Nat} {g : Nat → Int} {v : Int} : pvUp (pvSt f i g) i k v = pvSt f i (fun j => if j = k then v else g j) := by
  funext a b
  unfold pvUp pvSt
  by_cases h : a = i
  · subst h
    simp
  · simp [h]
theorem pvSt_self {f : Nat → Nat → Int} {i : Nat} : pvSt f i (f i) = f := by
  funext a b
  unfold pvSt
  split
  · rename_i h
    rw [h]
  · rfl
theorem cT_0 {g : Nat → Int} {v : Int} {t c T C : Nat} (hC : C < 17) (hc : c < 17) : cT (fun j => if j = 3 + 17 * T + C then v else g j) t c = if t = T ∧ c = C then v else cT g t c := by
  show (if 3 + 17 * t + c = 3 + 17 * T + C then v else g (3 + 17 * t + c)) = if t = T ∧ c = C then v else g (3 + 17 * t + c)
  by_cases h : t = T ∧ c = C
  · rw [if_pos h, if_pos (by omega)]
  · rw [if_neg h, if_neg (by omega)]
/-- what a row holds when the rows from t0 to k, and of row k the first c cells, have moved up -/
def rmI (f : Nat → Int) (t0 : Nat) (g : Nat → Int) (k c : Nat) : Prop :=
  (∀ j, j < 3 → g j = f j) ∧ ∀ t' c' : Nat, c' < 17 → cT g t' c' = if t0 ≤ t' ∧ (t' < k ∨ t' = k ∧ c' < c) then cT f (t' + 1) c' else cT f t' c'
theorem rmI_s {f g : Nat → Int} {t0 k c : Nat} (h : rmI f t0 g k c) (h0 : t0 ≤ k) (hc : c < 17) : rmI f t0 (fun j => if j = 3 + 17 * k + c then cT g (k + 1) c else g j) k (c + 1) := by
  refine ⟨fun j hj => ?_, fun t' c' hc' => ?_⟩
  · show (if j = 3 + 17 * k + c then _ else _) = _
    rw [if_neg (by omega)]
    exact h.1 j hj
  · rw [cT_0 hc hc', h.2 t' c' hc', h.2 (k + 1) c hc]
    by_cases e : t' = k ∧ c' = c
    · obtain ⟨rfl, rfl⟩ := e
      rw [if_pos ⟨rfl, rfl⟩, if_neg (by omega), if_pos (by omega)]
    · rw [if_neg e]
      by_cases q : t0 ≤ t' ∧ (t' < k ∨ t' = k ∧ c' < c)
      · rw [if_pos q, if_pos (by omega)]
      · rw [if_neg q, if_neg (by omega)]
theorem rmI_n {f g : Nat → Int} {t0 k c : Nat} (h : rmI f t0 g k c) (hc : 17 ≤ c) : rmI f t0 g (k + 1) 0 := by
  refine ⟨h.1, fun t' c' hc' => ?_⟩
  rw [h.2 t' c' hc']
  by_cases q : t0 ≤ t' ∧ (t' < k ∨ t' = k ∧ c' < c)
  · rw [if_pos q, if_pos (by omega)]
  · rw [if_neg q, if_neg (by omega)]
def C_X0_remove : pvC
  | [.inr (.inr (.inl id)), .inl t], z, Q => (id = 1 ∨ id = 3) ∧ ((0 ≤ z.1 (id + 1) 0 ∧ z.1 (id + 1) 0 ≤ 10) ∧ 0 ≤ t ∧ t < z.1 (id + 1) 0) ∧
      ∀ g : Nat → Int, (g 0 = z.1 (id + 1) 0 - 1 ∧ g 1 = z.1 (id + 1) 1 ∧ g 2 = z.1 (id + 1) 2) → (∀ t' c' : Nat, (t' : Int) + 1 < z.1 (id + 1) 0 → c' < 17 → cT g t' c' = if t ≤ t' then cT (z.1 (id + 1)) (t' + 1) c' else cT (z.1 (id + 1)) t' c') →
        Q (.inl (some (vI (z.1 (id + 1) 0 - 1)))) (pvSt z.1 (id + 1) g, z.2)
  | _, _, _ => False
def bX0_remove : Nat → List (Instr × Nat)
  | 0 => [(.aload_n 0, 1), (.invokevirtual 23, 3), (.iconst 1, 1), (.isub, 1), (.istore_n 2, 1), (.iload_n 1, 1), (.istore_n 3, 1)]
  | 9 => [(.iload_n 3, 1), (.iload_n 2, 1), (.if_icmp .ge 41, 3), (.iconst 0, 1), (.istore 4, 2)]
  | 17 => [(.iload 4, 2), (.bipush 17, 2), (.if_icmp .ge 25, 3), (.aload_n 0, 1), (.iload_n 3, 1), (.iload 4, 2), (.aload_n 0, 1), (.iload_n 3, 1), (.iconst 1, 1), (.iadd, 1), (.iload 4, 2), (.invokevirtual 19, 3), (.invokevirtual 27, 3), (.iinc 4 1, 3), (.goto (-26), 3)]
  | 46 => [(.iinc 3 1, 3), (.goto (-40), 3)]
  | 52 => [(.aload_n 0, 1), (.getfield 11, 3), (.iconst 0, 1), (.iload_n 2, 1), (.iastore, 1), (.iload_n 2, 1), (.ireturn, 1)]
  | _ => []
def uX0_remove : Nat → Option (List Bool)
  | 9 => some [true, false, true, true, false]
  | 17 => some [true, false, true, true, true]
  | _ => none
def aX0_remove : pvCa
  | 19 => some (3, false, 0, 0, C_X0_cell)
  | 23 => some (1, false, 0, 0, C_X0_size)
  | 27 => some (4, false, 0, 0, C_X0_putCell)
  | _ => none
theorem bX0_remove_0 : bX0_remove 0 = [(.aload_n 0, 1), (.invokevirtual 23, 3), (.iconst 1, 1), (.isub, 1), (.istore_n 2, 1), (.iload_n 1, 1), (.istore_n 3, 1)] := rfl
theorem uX0_remove_0 : uX0_remove 0 = none := rfl
theorem bX0_remove_9 : bX0_remove 9 = [(.iload_n 3, 1), (.iload_n 2, 1), (.if_icmp .ge 41, 3), (.iconst 0, 1), (.istore 4, 2)] := rfl
theorem uX0_remove_9 : uX0_remove 9 = some [true, false, true, true, false] := rfl
theorem bX0_remove_17 : bX0_remove 17 = [(.iload 4, 2), (.bipush 17, 2), (.if_icmp .ge 25, 3), (.aload_n 0, 1), (.iload_n 3, 1), (.iload 4, 2), (.aload_n 0, 1), (.iload_n 3, 1), (.iconst 1, 1), (.iadd, 1), (.iload 4, 2), (.invokevirtual 19, 3), (.invokevirtual 27, 3), (.iinc 4 1, 3), (.goto (-26), 3)] := rfl
theorem uX0_remove_17 : uX0_remove 17 = some [true, false, true, true, true] := rfl
theorem bX0_remove_46 : bX0_remove 46 = [(.iinc 3 1, 3), (.goto (-40), 3)] := rfl
theorem uX0_remove_46 : uX0_remove 46 = none := rfl
theorem bX0_remove_52 : bX0_remove 52 = [(.aload_n 0, 1), (.getfield 11, 3), (.iconst 0, 1), (.iload_n 2, 1), (.iastore, 1), (.iload_n 2, 1), (.ireturn, 1)] := rfl
theorem uX0_remove_52 : uX0_remove 52 = none := rfl
theorem aX0_remove_19 : aX0_remove 19 = some (3, false, 0, 0, C_X0_cell) := rfl
theorem aX0_remove_23 : aX0_remove 23 = some (1, false, 0, 0, C_X0_size) := rfl
theorem aX0_remove_27 : aX0_remove 27 = some (4, false, 0, 0, C_X0_putCell) := rfl
def mX0_remove : Room := { frames := 2, cells := 1, slots := 6, locals := 45 }
set_option maxRecDepth 100000 in
set_option maxHeartbeats 4000000 in
theorem okX0_remove : pvOkM fX0 aX0_remove kX0 eX0 (some .int) bX0_remove uX0_remove 5 C_X0_remove := by
  intro Q SW hc as z h hS hz
  unfold C_X0_remove at h
  split at h
  · rename_i id t
    obtain ⟨hid, ⟨hn, ht⟩, h2⟩ := h
    have hsh : pvSh id = Sum.inl 0 := by rcases hid with rfl | rfl <;> rfl
    obtain ⟨t, rfl⟩ : ∃ n : Nat, t = n := ⟨t.toNat, by omega⟩
    have outer : ∀ (m k : Nat) (g : Nat → Int), (k : Int) + m = z.1 (id + 1) 0 - 1 → t ≤ k → rmI (z.1 (id + 1)) t g k 0 → SW 9 [some (vR id), none, some (vI (z.1 (id + 1) 0 - 1)), some (vI (k : Int)), none] (pvSt z.1 (id + 1) g, z.2) := by
      intro m
      induction m using Nat.strongRecOn with
      | _ m ih =>
        intro k g hk htk hg
        have inner : ∀ (j c : Nat) (g : Nat → Int), c + j = 17 → (k : Int) < z.1 (id + 1) 0 - 1 → rmI (z.1 (id + 1)) t g k c → SW 17 [some (vR id), none, some (vI (z.1 (id + 1) 0 - 1)), some (vI (k : Int)), some (vI (c : Int))] (pvSt z.1 (id + 1) g, z.2) := by
          intro j
          induction j using Nat.strongRecOn with
          | _ j ihj =>
            intro c g hcj hkn hg
            have e0 : (3 + 17 * (k : Int) + (c : Int)).toNat = 3 + 17 * k + c := by omega
            have e1 : ((k : Int) + 1).toNat = k + 1 := by omega
            refine hc 20 _ _ _ fun _ _ => ?_
            simp only [pvSt1]
            simp only [C_X0_cell, C_X0_putCell, e0, e1, pvSt_eq, pvUp_st, pvE_aload_n0, pvLA_s, pvLd, pvE_invokevirtual, pvC1_s, pvC2_s, pvAf_v, pvAf_x, pvPop, pvCs, pvCat, pvPush, aX0_remove_23, pvSh_0, pvSh_1, pvSh_2, pvSh_3, pvSh_4, pvSh_5, pvSh_6, pvSh_7, pvSh_8, pvSh_9, pvSh_10, pvSh_11, pvSh_12, pvSh_13, pvSh_14, pvSh_15, pvSh_16, pvSh_17, pvSh_18, pvSh_19, pvSh_20, pvSh_21, pvSh_22, pvSh_23, pvSh_24, pvSh_25, pvSh_26, pvSh_27, pvSh_28, pvSh_29, pvSh_30, pvSh_31, pvSh_32, pvSh_33, pvSh_34, pvSh_35, pvSh_36, pvSh_37, pvSh_38, pvSh_39, pvSh_40, pvSh_41, pvSh_42, pvSh_43, pvSh_44, pvSh_45, pvSh_46, pvSh_47, pvSh_48, pvSh_49, pvSh_50, pvSh_51, pvSh_52, pvSh_53, pvSh_54, pvSh_55, pvSh_56, pvSh_57, pvSh_58, pvSh_59, pvE_iconst, pvE_isub, pvE_istore_n2, pvS1, List.length_cons, List.length_nil, pvClr_i, pvClr_r, pvClr_l, pvClr_d, pvClr_f, pvClr_n, pvE_iload_n1, pvLI_s, pvE_istore_n3, pvE_iload_n3, pvE_iload_n2, pvE_icmp_ge, pvE_istore, pvE_iload, pvE_bipush, pvE_iadd, aX0_remove_19, aX0_remove_27, pvE_iinc, pvIc_s, pvE_goto, pvE_getfield, pvGf_0, pvGf_1, pvGf_2, fX0_11, pvRf_0_0, pvRf_0_1, pvRf_0_2, pvRf_0_3, pvRf_0_4, pvRf_0_5, pvRf_0_6, pvRf_0_7, pvRf_0_8, pvRf_0_9, pvRf_0_10, pvRf_1_0, pvRf_3_0, pvRf_5_0, pvRf_5_1, pvRf_5_2, pvRf_9_0, pvRf_9_1, pvRf_9_2, pvRf_13_0, pvRf_13_1, pvRf_13_2, pvRf_17_0, pvRf_17_2, pvRf_20_0, pvRf_20_1, pvRf_20_2, pvRf_24_0, pvRf_24_1, pvRf_24_2, pvRf_28_0, pvRf_28_1, pvRf_28_2, pvRf_28_3, pvRf_33_0, pvRf_33_1, pvRf_36_0, pvRf_36_1, pvRf_39_0, pvRf_39_1, pvRf_39_2, pvRf_39_5, pvRf_39_6, pvRf_39_9, pvRf_39_13, pvRf_39_15, pvRf_39_16, pvRf_39_17, pvRf_39_19, pvRf_39_20, pvRf_39_22, pvRf_39_23, pvRf_39_24, pvRf_39_25, pvRf_39_29, pvRf_39_30, pvE_iastore, pvAI, pvE_ireturn, bX0_remove_0, uX0_remove_0, bX0_remove_9, uX0_remove_9, bX0_remove_17, uX0_remove_17, bX0_remove_46, uX0_remove_46, bX0_remove_52, uX0_remove_52, pvMk_t, pvMk_f, pvMk_n, pvRecv_r, pvUp_nl, pvUp_same, pvUp_ap, pvSt_ap, pvX_c, pvX_ms, pvX_mn, pvE_nil, pvEn_i, pvEn_r, pvEn_l, pvEn_0, pvEn_s, pvRt, pvRv, pvTh, pvKc, pvGo, pvTgt, Int.toNat_natCast, false_and, and_false, true_and, and_true, if_true, if_false, reduceIte, reduceCtorEq, forall_const, false_or, or_false, true_or, or_true, ne_eq, not_true_eq_false, not_false_eq_true, implies_true, false_implies, Nat.reduceAdd, Nat.reduceSub, Nat.reduceMul, Nat.reduceEqDiff, Nat.reduceLT, Nat.reduceLeDiff, Int.reduceAdd, Int.reduceSub, Int.reduceMul, Int.reduceNeg, Int.reduceToNat, Int.reduceLE, Int.reduceLT, Int.reduceEq, Int.reduceNe, and_self]
            by_cases hx : 17 ≤ c
            · have q := ih (m - 1) (by omega) (k + 1) g (by omega) (by omega) (rmI_n hg hx)
              (repeat' (first | with_reducible apply And.intro | intro _))
              all_goals first
                | omega
                | exact q
            · have q := ihj (j - 1) (by omega) (c + 1) _ (by omega) hkn (rmI_s hg htk (by omega))
              (repeat' (first | with_reducible apply And.intro | intro _))
              all_goals first
                | omega
                | assumption
                | exact q
        refine hc 20 _ _ _ fun _ _ => ?_
        by_cases hx : z.1 (id + 1) 0 - 1 ≤ k
        · have q := h2 (fun j => if j = 0 then z.1 (id + 1) 0 - 1 else g j) ⟨rfl, hg.1 1 (by omega), hg.1 2 (by omega)⟩ (fun t' c' ht' hc' => by
            show (if 3 + 17 * t' + c' = 0 then _ else cT g t' c') = _
            rw [if_neg (by omega), hg.2 t' c' hc']
            by_cases e : t ≤ t'
            · rw [if_pos (by omega), if_pos (by omega)]
            · rw [if_neg (by omega), if_neg (by omega)])
          clear ih hc
          rcases hid with rfl | rfl <;> simp only [Nat.reduceAdd] at q hx ⊢ <;>
          (simp only [pvSt1]
           simp only [pvUp_st, pvE_aload_n0, pvLA_s, pvLd, pvE_invokevirtual, pvC1_s, pvC2_s, pvAf_v, pvAf_x, pvPop, pvCs, pvCat, pvPush, aX0_remove_23, pvSh_0, pvSh_1, pvSh_2, pvSh_3, pvSh_4, pvSh_5, pvSh_6, pvSh_7, pvSh_8, pvSh_9, pvSh_10, pvSh_11, pvSh_12, pvSh_13, pvSh_14, pvSh_15, pvSh_16, pvSh_17, pvSh_18, pvSh_19, pvSh_20, pvSh_21, pvSh_22, pvSh_23, pvSh_24, pvSh_25, pvSh_26, pvSh_27, pvSh_28, pvSh_29, pvSh_30, pvSh_31, pvSh_32, pvSh_33, pvSh_34, pvSh_35, pvSh_36, pvSh_37, pvSh_38, pvSh_39, pvSh_40, pvSh_41, pvSh_42, pvSh_43, pvSh_44, pvSh_45, pvSh_46, pvSh_47, pvSh_48, pvSh_49, pvSh_50, pvSh_51, pvSh_52, pvSh_53, pvSh_54, pvSh_55, pvSh_56, pvSh_57, pvSh_58, pvSh_59, pvE_iconst, pvE_isub, pvE_istore_n2, pvS1, List.length_cons, List.length_nil, pvClr_i, pvClr_r, pvClr_l, pvClr_d, pvClr_f, pvClr_n, pvE_iload_n1, pvLI_s, pvE_istore_n3, pvE_iload_n3, pvE_iload_n2, pvE_icmp_ge, pvE_istore, pvE_iload, pvE_bipush, pvE_iadd, aX0_remove_19, aX0_remove_27, pvE_iinc, pvIc_s, pvE_goto, pvE_getfield, pvGf_0, pvGf_1, pvGf_2, fX0_11, pvRf_0_0, pvRf_0_1, pvRf_0_2, pvRf_0_3, pvRf_0_4, pvRf_0_5, pvRf_0_6, pvRf_0_7, pvRf_0_8, pvRf_0_9, pvRf_0_10, pvRf_1_0, pvRf_3_0, pvRf_5_0, pvRf_5_1, pvRf_5_2, pvRf_9_0, pvRf_9_1, pvRf_9_2, pvRf_13_0, pvRf_13_1, pvRf_13_2, pvRf_17_0, pvRf_17_2, pvRf_20_0, pvRf_20_1, pvRf_20_2, pvRf_24_0, pvRf_24_1, pvRf_24_2, pvRf_28_0, pvRf_28_1, pvRf_28_2, pvRf_28_3, pvRf_33_0, pvRf_33_1, pvRf_36_0, pvRf_36_1, pvRf_39_0, pvRf_39_1, pvRf_39_2, pvRf_39_5, pvRf_39_6, pvRf_39_9, pvRf_39_13, pvRf_39_15, pvRf_39_16, pvRf_39_17, pvRf_39_19, pvRf_39_20, pvRf_39_22, pvRf_39_23, pvRf_39_24, pvRf_39_25, pvRf_39_29, pvRf_39_30, pvE_iastore, pvAI, pvE_ireturn, bX0_remove_0, uX0_remove_0, bX0_remove_9, uX0_remove_9, bX0_remove_17, uX0_remove_17, bX0_remove_46, uX0_remove_46, bX0_remove_52, uX0_remove_52, pvMk_t, pvMk_f, pvMk_n, pvRecv_r, pvUp_nl, pvUp_same, pvUp_ap, pvSt_ap, pvX_c, pvX_ms, pvX_mn, pvE_nil, pvEn_i, pvEn_r, pvEn_l, pvEn_0, pvEn_s, pvRt, pvRv, pvTh, pvKc, pvGo, pvTgt, Int.toNat_natCast, false_and, and_false, true_and, and_true, if_true, if_false, reduceIte, reduceCtorEq, forall_const, false_or, or_false, true_or, or_true, ne_eq, not_true_eq_false, not_false_eq_true, implies_true, false_implies, Nat.reduceAdd, Nat.reduceSub, Nat.reduceMul, Nat.reduceEqDiff, Nat.reduceLT, Nat.reduceLeDiff, Int.reduceAdd, Int.reduceSub, Int.reduceMul, Int.reduceNeg, Int.reduceToNat, Int.reduceLE, Int.reduceLT, Int.reduceEq, Int.reduceNe, and_self]
           (repeat' (first | with_reducible apply And.intro | intro _))
           all_goals first
             | omega
             | assumption
             | exact q)
        · have q := inner 17 0 g (by omega) (by omega) hg
          simp only [pvSt1]
          simp only [pvUp_st, pvE_aload_n0, pvLA_s, pvLd, pvE_invokevirtual, pvC1_s, pvC2_s, pvAf_v, pvAf_x, pvPop, pvCs, pvCat, pvPush, aX0_remove_23, pvSh_0, pvSh_1, pvSh_2, pvSh_3, pvSh_4, pvSh_5, pvSh_6, pvSh_7, pvSh_8, pvSh_9, pvSh_10, pvSh_11, pvSh_12, pvSh_13, pvSh_14, pvSh_15, pvSh_16, pvSh_17, pvSh_18, pvSh_19, pvSh_20, pvSh_21, pvSh_22, pvSh_23, pvSh_24, pvSh_25, pvSh_26, pvSh_27, pvSh_28, pvSh_29, pvSh_30, pvSh_31, pvSh_32, pvSh_33, pvSh_34, pvSh_35, pvSh_36, pvSh_37, pvSh_38, pvSh_39, pvSh_40, pvSh_41, pvSh_42, pvSh_43, pvSh_44, pvSh_45, pvSh_46, pvSh_47, pvSh_48, pvSh_49, pvSh_50, pvSh_51, pvSh_52, pvSh_53, pvSh_54, pvSh_55, pvSh_56, pvSh_57, pvSh_58, pvSh_59, pvE_iconst, pvE_isub, pvE_istore_n2, pvS1, List.length_cons, List.length_nil, pvClr_i, pvClr_r, pvClr_l, pvClr_d, pvClr_f, pvClr_n, pvE_iload_n1, pvLI_s, pvE_istore_n3, pvE_iload_n3, pvE_iload_n2, pvE_icmp_ge, pvE_istore, pvE_iload, pvE_bipush, pvE_iadd, aX0_remove_19, aX0_remove_27, pvE_iinc, pvIc_s, pvE_goto, pvE_getfield, pvGf_0, pvGf_1, pvGf_2, fX0_11, pvRf_0_0, pvRf_0_1, pvRf_0_2, pvRf_0_3, pvRf_0_4, pvRf_0_5, pvRf_0_6, pvRf_0_7, pvRf_0_8, pvRf_0_9, pvRf_0_10, pvRf_1_0, pvRf_3_0, pvRf_5_0, pvRf_5_1, pvRf_5_2, pvRf_9_0, pvRf_9_1, pvRf_9_2, pvRf_13_0, pvRf_13_1, pvRf_13_2, pvRf_17_0, pvRf_17_2, pvRf_20_0, pvRf_20_1, pvRf_20_2, pvRf_24_0, pvRf_24_1, pvRf_24_2, pvRf_28_0, pvRf_28_1, pvRf_28_2, pvRf_28_3, pvRf_33_0, pvRf_33_1, pvRf_36_0, pvRf_36_1, pvRf_39_0, pvRf_39_1, pvRf_39_2, pvRf_39_5, pvRf_39_6, pvRf_39_9, pvRf_39_13, pvRf_39_15, pvRf_39_16, pvRf_39_17, pvRf_39_19, pvRf_39_20, pvRf_39_22, pvRf_39_23, pvRf_39_24, pvRf_39_25, pvRf_39_29, pvRf_39_30, pvE_iastore, pvAI, pvE_ireturn, bX0_remove_0, uX0_remove_0, bX0_remove_9, uX0_remove_9, bX0_remove_17, uX0_remove_17, bX0_remove_46, uX0_remove_46, bX0_remove_52, uX0_remove_52, pvMk_t, pvMk_f, pvMk_n, pvRecv_r, pvUp_nl, pvUp_same, pvUp_ap, pvSt_ap, pvX_c, pvX_ms, pvX_mn, pvE_nil, pvEn_i, pvEn_r, pvEn_l, pvEn_0, pvEn_s, pvRt, pvRv, pvTh, pvKc, pvGo, pvTgt, Int.toNat_natCast, false_and, and_false, true_and, and_true, if_true, if_false, reduceIte, reduceCtorEq, forall_const, false_or, or_false, true_or, or_true, ne_eq, not_true_eq_false, not_false_eq_true, implies_true, false_implies, Nat.reduceAdd, Nat.reduceSub, Nat.reduceMul, Nat.reduceEqDiff, Nat.reduceLT, Nat.reduceLeDiff, Int.reduceAdd, Int.reduceSub, Int.reduceMul, Int.reduceNeg, Int.reduceToNat, Int.reduceLE, Int.reduceLT, Int.reduceEq, Int.reduceNe, and_self]
          (repeat' (first | with_reducible apply And.intro | intro _))
          all_goals first
            | omega
            | assumption
            | exact q
    have r0 : rmI (z.1 (id + 1)) t (z.1 (id + 1)) t 0 := ⟨fun _ _ => rfl, fun t' c' _ => by rw [if_neg (by omega)]⟩
    have q := outer (z.1 (id + 1) 0 - 1 - t).toNat t _ (by omega) (Nat.le_refl _) r0
    rw [pvSt_self] at q
    refine ⟨Nat.le_of_ble_eq_true rfl, hc 20 _ _ _ fun _ _ => ?_⟩
    simp only [pvSt1]
    simp only [C_X0_size, pvE_aload_n0, pvLA_s, pvLd, pvE_invokevirtual, pvC1_s, pvC2_s, pvAf_v, pvAf_x, pvPop, pvCs, pvCat, pvPush, aX0_remove_23, pvSh_0, pvSh_1, pvSh_2, pvSh_3, pvSh_4, pvSh_5, pvSh_6, pvSh_7, pvSh_8, pvSh_9, pvSh_10, pvSh_11, pvSh_12, pvSh_13, pvSh_14, pvSh_15, pvSh_16, pvSh_17, pvSh_18, pvSh_19, pvSh_20, pvSh_21, pvSh_22, pvSh_23, pvSh_24, pvSh_25, pvSh_26, pvSh_27, pvSh_28, pvSh_29, pvSh_30, pvSh_31, pvSh_32, pvSh_33, pvSh_34, pvSh_35, pvSh_36, pvSh_37, pvSh_38, pvSh_39, pvSh_40, pvSh_41, pvSh_42, pvSh_43, pvSh_44, pvSh_45, pvSh_46, pvSh_47, pvSh_48, pvSh_49, pvSh_50, pvSh_51, pvSh_52, pvSh_53, pvSh_54, pvSh_55, pvSh_56, pvSh_57, pvSh_58, pvSh_59, pvE_iconst, pvE_isub, pvE_istore_n2, pvS1, List.length_cons, List.length_nil, pvClr_i, pvClr_r, pvClr_l, pvClr_d, pvClr_f, pvClr_n, pvE_iload_n1, pvLI_s, pvE_istore_n3, pvE_iload_n3, pvE_iload_n2, pvE_icmp_ge, pvE_istore, pvE_iload, pvE_bipush, pvE_iadd, aX0_remove_19, aX0_remove_27, pvE_iinc, pvIc_s, pvE_goto, pvE_getfield, pvGf_0, pvGf_1, pvGf_2, fX0_11, pvRf_0_0, pvRf_0_1, pvRf_0_2, pvRf_0_3, pvRf_0_4, pvRf_0_5, pvRf_0_6, pvRf_0_7, pvRf_0_8, pvRf_0_9, pvRf_0_10, pvRf_1_0, pvRf_3_0, pvRf_5_0, pvRf_5_1, pvRf_5_2, pvRf_9_0, pvRf_9_1, pvRf_9_2, pvRf_13_0, pvRf_13_1, pvRf_13_2, pvRf_17_0, pvRf_17_2, pvRf_20_0, pvRf_20_1, pvRf_20_2, pvRf_24_0, pvRf_24_1, pvRf_24_2, pvRf_28_0, pvRf_28_1, pvRf_28_2, pvRf_28_3, pvRf_33_0, pvRf_33_1, pvRf_36_0, pvRf_36_1, pvRf_39_0, pvRf_39_1, pvRf_39_2, pvRf_39_5, pvRf_39_6, pvRf_39_9, pvRf_39_13, pvRf_39_15, pvRf_39_16, pvRf_39_17, pvRf_39_19, pvRf_39_20, pvRf_39_22, pvRf_39_23, pvRf_39_24, pvRf_39_25, pvRf_39_29, pvRf_39_30, pvE_iastore, pvAI, pvE_ireturn, bX0_remove_0, uX0_remove_0, bX0_remove_9, uX0_remove_9, bX0_remove_17, uX0_remove_17, bX0_remove_46, uX0_remove_46, bX0_remove_52, uX0_remove_52, pvMk_t, pvMk_f, pvMk_n, pvRecv_r, pvUp_nl, pvUp_same, pvUp_ap, pvSt_ap, pvX_c, pvX_ms, pvX_mn, pvE_nil, pvEn_i, pvEn_r, pvEn_l, pvEn_0, pvEn_s, pvRt, pvRv, pvTh, pvKc, pvGo, pvTgt, Int.toNat_natCast, false_and, and_false, true_and, and_true, if_true, if_false, reduceIte, reduceCtorEq, forall_const, false_or, or_false, true_or, or_true, ne_eq, not_true_eq_false, not_false_eq_true, implies_true, false_implies, Nat.reduceAdd, Nat.reduceSub, Nat.reduceMul, Nat.reduceEqDiff, Nat.reduceLT, Nat.reduceLeDiff, Int.reduceAdd, Int.reduceSub, Int.reduceMul, Int.reduceNeg, Int.reduceToNat, Int.reduceLE, Int.reduceLT, Int.reduceEq, Int.reduceNe, and_self]
    (repeat' (first | with_reducible apply And.intro | intro _))
    all_goals first
      | omega
      | assumption
  · exact h.elim
