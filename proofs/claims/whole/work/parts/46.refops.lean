/-! the reference: the changes -/
theorem autR_same {f f' : Nat → Int} {s s' : Int} (hs : 0 ≤ s ∧ s ≤ 1) (hs' : 0 ≤ s' ∧ s' ≤ 1) (hne : s' ≠ s) (hw : WfA (autR f s')) (h : ∀ j : Nat, ¬ (163 * s ≤ j ∧ j < 163 * s + 163) → f' j = f j) : autR f' s' = autR f s' :=
  autR_ext hw fun k hk => h _ (by omega)
theorem autR_in {f f' : Nat → Int} {s : Int} (h : ∀ j : Nat, j ≠ 163 * s.toNat → f' j = f j) : autR f' s = inA (autR f s) (f' (163 * s.toNat)) := by
  have e : rT f' s = rT f s := by
    funext t c
    exact h _ (by omega)
  unfold autR
  rw [h (163 * s.toNat + 2) (by omega), h (163 * s.toNat + 1) (by omega), e]
  rfl
theorem autR_fi {f f' : Nat → Int} {s : Int} (h : ∀ j : Nat, j ≠ 163 * s.toNat + 1 → f' j = f j) : autR f' s = fiA (autR f s) (f' (163 * s.toNat + 1)) := by
  have e : rT f' s = rT f s := by
    funext t c
    exact h _ (by omega)
  unfold autR
  rw [h (163 * s.toNat + 2) (by omega), h (163 * s.toNat) (by omega), e]
  rfl
/-- a state marked or not -/
def msF (x q on : Int) : Int := if on = 0 then pvAnd x (pvXor (pvShl 1 q) (-1)) else pvOr x (pvShl 1 q)
theorem msF_t : ∀ (x : Fin 16) (q : Fin 4) (on : Fin 2), msF ((x : Nat) : Int) ((q : Nat) : Int) ((on : Nat) : Int) = (if (if btF ((x : Nat) : Int) ((q : Nat) : Int) then 1 else 0) = ((on : Nat) : Int) then ((x : Nat) : Int) else pvXor ((x : Nat) : Int) (pvShl 1 ((q : Nat) : Int))) ∧ 0 ≤ msF ((x : Nat) : Int) ((q : Nat) : Int) ((on : Nat) : Int) ∧ msF ((x : Nat) : Int) ((q : Nat) : Int) ((on : Nat) : Int) ≤ 15 := by
  decide +kernel
theorem msF_eq {x q on : Int} (hx : 0 ≤ x ∧ x ≤ 15) (hq : 0 ≤ q ∧ q ≤ 3) (ho : on = 0 ∨ on = 1) : msF x q on = (if (if btF x q then 1 else 0) = on then x else pvXor x (pvShl 1 q)) ∧ 0 ≤ msF x q on ∧ msF x q on ≤ 15 := by
  obtain ⟨a, rfl⟩ := fin_of (a := x) (n := 16) (by omega)
  obtain ⟨b, rfl⟩ := fin_of (a := q) (n := 4) (by omega)
  obtain ⟨c, rfl⟩ := fin_of (a := on) (n := 2) (by omega)
  exact msF_t a b c
theorem chgF_8 {z z' : pvM} {v : Int} (h : chgF (pvUp z.1 39 8 v, z.2) z') : chgF z z' := by
  simp only [chgF, pvUp_ap, Nat.reduceEqDiff, false_and, and_false, true_and, if_false, reduceIte] at h
  exact h
theorem chgF_m {z z1 z2 : pvM} (h : chgF z z1) (h3 : z2.1 39 3 = z1.1 39 3) (h4 : z2.1 42 = z1.1 42) : chgF z z2 := by
  unfold chgF
  rw [h3, h4]
  exact h
theorem chgF_b {z z0 z1 : pvM} (h : chgF z0 z1) (h3 : z0.1 39 3 = z.1 39 3) (h4 : z0.1 42 = z.1 42) (h5 : z0.1 40 = z.1 40) : chgF z z1 := by
  unfold chgF at h ⊢
  rw [h3, h4, h5] at h
  exact h
theorem chgF_u {z z1 : pvM} {k : Nat} {v : Int} (h : chgF z z1) : chgF z (pvUp z1.1 40 k v, z1.2) :=
  chgF_m h (by show pvUp z1.1 40 k v 39 3 = _; simp [pvUp_ap]) (by show pvUp z1.1 40 k v 42 = _; exact pvUp_ne (by decide))
def C_X10_marks : pvC
  | [.inr (.inr (.inl id)), .inl s, .inl q, .inl on, .inl wh], z, Q => id = 39 ∧ ((0 ≤ z.1 39 3 ∧ z.1 39 3 ≤ 8) ∧ (on = 0 ∨ on = 1) ∧ (0 ≤ wh ∧ wh ≤ 1) ∧ (0 ≤ s ∧ s ≤ 1 → 0 ≤ z.1 40 (163 * s + wh).toNat ∧ z.1 40 (163 * s + wh).toNat ≤ 15)) ∧
      (¬ ((0 ≤ s ∧ s ≤ 1) ∧ 0 ≤ q ∧ q ≤ 3) → Q (.inl (some (vI 0))) (pvUp z.1 39 8 1, z.2)) ∧
      ((0 ≤ s ∧ s ≤ 1) ∧ (0 ≤ q ∧ q ≤ 3) → ∀ z' : pvM, frF [39, 40, 42] [] z z' → (∀ j, j ≠ 3 → j ≠ 8 → z'.1 39 j = z.1 39 j) → z'.1 39 8 = 0 → chgF z z' → (∀ j : Nat, j ≠ (163 * s + wh).toNat → z'.1 40 j = z.1 40 j) → z'.1 40 (163 * s + wh).toNat = msF (z.1 40 (163 * s + wh).toNat) q on →
        Q (.inl (some (vI (if btF (z.1 40 (163 * s + wh).toNat) q then 1 else 0)))) z')
  | _, _, _ => False
def bX10_marks : Nat → List (Instr × Nat)
  | 0 => [(.aload_n 0, 1), (.iload_n 1, 1), (.invokestatic 80, 3), (.ifCond .eq 14, 3), (.iload_n 2, 1), (.invokestatic 124, 3), (.ifCond .eq 7, 3), (.iconst 0, 1), (.goto 4, 3)]
  | 19 => [(.iconst 1, 1)]
  | 20 => [(.putfield 73, 3), (.aload_n 0, 1), (.getfield 73, 3), (.ifCond .le 5, 3), (.iconst 0, 1), (.ireturn, 1)]
  | 32 => [(.aload_n 0, 1), (.invokevirtual 95, 3), (.sipush 163, 3), (.iload_n 1, 1), (.imul, 1), (.iload 4, 2), (.iadd, 1), (.istore 5, 2), (.aload_n 0, 1), (.getfield 7, 3), (.iload 5, 2), (.iaload, 1), (.iload_n 2, 1), (.ishr, 1), (.iconst 1, 1), (.iand, 1), (.iconst 1, 1), (.if_icmp .ne 7, 3), (.iconst 1, 1), (.goto 4, 3)]
  | 65 => [(.iconst 0, 1)]
  | 66 => [(.istore 6, 2), (.iload 6, 2), (.iload_n 3, 1), (.if_icmp .eq 16, 3), (.aload_n 0, 1), (.getfield 7, 3), (.iload 5, 2), (.dup2, 1), (.iaload, 1), (.iconst 1, 1), (.iload_n 2, 1), (.ishl, 1), (.ixor, 1), (.iastore, 1)]
  | 87 => [(.iload 6, 2), (.ireturn, 1)]
  | _ => []
def uX10_marks : Nat → Option (List Bool)
  | _ => none
def aX10_marks : pvCa
  | 80 => some (1, true, 0, 0, C_X10_isSlot)
  | 95 => some (1, false, 9, 0, C_X10_changes)
  | 124 => some (1, true, 0, 0, C_X10_isState)
  | _ => none
theorem bX10_marks_0 : bX10_marks 0 = [(.aload_n 0, 1), (.iload_n 1, 1), (.invokestatic 80, 3), (.ifCond .eq 14, 3), (.iload_n 2, 1), (.invokestatic 124, 3), (.ifCond .eq 7, 3), (.iconst 0, 1), (.goto 4, 3)] := rfl
theorem uX10_marks_0 : uX10_marks 0 = none := rfl
theorem bX10_marks_19 : bX10_marks 19 = [(.iconst 1, 1)] := rfl
theorem uX10_marks_19 : uX10_marks 19 = none := rfl
theorem bX10_marks_20 : bX10_marks 20 = [(.putfield 73, 3), (.aload_n 0, 1), (.getfield 73, 3), (.ifCond .le 5, 3), (.iconst 0, 1), (.ireturn, 1)] := rfl
theorem uX10_marks_20 : uX10_marks 20 = none := rfl
theorem bX10_marks_32 : bX10_marks 32 = [(.aload_n 0, 1), (.invokevirtual 95, 3), (.sipush 163, 3), (.iload_n 1, 1), (.imul, 1), (.iload 4, 2), (.iadd, 1), (.istore 5, 2), (.aload_n 0, 1), (.getfield 7, 3), (.iload 5, 2), (.iaload, 1), (.iload_n 2, 1), (.ishr, 1), (.iconst 1, 1), (.iand, 1), (.iconst 1, 1), (.if_icmp .ne 7, 3), (.iconst 1, 1), (.goto 4, 3)] := rfl
theorem uX10_marks_32 : uX10_marks 32 = none := rfl
theorem bX10_marks_65 : bX10_marks 65 = [(.iconst 0, 1)] := rfl
theorem uX10_marks_65 : uX10_marks 65 = none := rfl
theorem bX10_marks_66 : bX10_marks 66 = [(.istore 6, 2), (.iload 6, 2), (.iload_n 3, 1), (.if_icmp .eq 16, 3), (.aload_n 0, 1), (.getfield 7, 3), (.iload 5, 2), (.dup2, 1), (.iaload, 1), (.iconst 1, 1), (.iload_n 2, 1), (.ishl, 1), (.ixor, 1), (.iastore, 1)] := rfl
theorem uX10_marks_66 : uX10_marks 66 = none := rfl
theorem bX10_marks_87 : bX10_marks 87 = [(.iload 6, 2), (.ireturn, 1)] := rfl
theorem uX10_marks_87 : uX10_marks 87 = none := rfl
theorem aX10_marks_80 : aX10_marks 80 = some (1, true, 0, 0, C_X10_isSlot) := rfl
theorem aX10_marks_95 : aX10_marks 95 = some (1, false, 9, 0, C_X10_changes) := rfl
theorem aX10_marks_124 : aX10_marks 124 = some (1, true, 0, 0, C_X10_isState) := rfl
def mX10_marks : Room := { frames := 2, cells := 1, slots := 6, locals := 42 }
set_option maxRecDepth 100000 in
set_option maxHeartbeats 4000000 in
theorem okX10_marks : pvOkM fX10 aX10_marks kX10 eX10 (some .boolean) bX10_marks uX10_marks 7 C_X10_marks := by
  intro Q SW hc as z h hS hz
  unfold C_X10_marks at h
  split at h
  · rename_i id s q on wh
    obtain ⟨rfl, ⟨hp, ho, hwh, hx⟩, h1, h2⟩ := h
    refine ⟨Nat.le_of_ble_eq_true rfl, hc 20 _ _ _ fun _ _ => ?_⟩
    clear hc hS hz
    simp only [pvSt1]
    by_cases hv : (0 ≤ s ∧ s ≤ 1) ∧ 0 ≤ q ∧ q ≤ 3
    · have hx := hx hv.1
      have em := (msF_eq hx hv.2 ho).1
      have hb := bt_eq (s := z.1 40 (163 * s + wh).toNat) (q := q) (by omega)
      have h3 := h2 hv
      simp only [C_X10_isSlot, C_X10_isState, C_X10_changes, pvE_aload_n0, pvLA_s, pvLd, pvE_iload_n1, pvLI_s, pvE_invokestatic (h0 := eX10_80), pvC1_s, pvC2_s, pvAf_v, pvAf_x, pvPop, pvCs, pvCat, pvPush, aX10_marks_80, pvE_if_eq, pvE_iload_n2, pvE_invokestatic (h0 := eX10_124), aX10_marks_124, pvE_iconst, pvE_goto, pvE_putfield, pvPf_0, pvPf_1, fX10_73, pvSh_0, pvSh_1, pvSh_2, pvSh_3, pvSh_4, pvSh_5, pvSh_6, pvSh_7, pvSh_8, pvSh_9, pvSh_10, pvSh_11, pvSh_12, pvSh_13, pvSh_14, pvSh_15, pvSh_16, pvSh_17, pvSh_18, pvSh_19, pvSh_20, pvSh_21, pvSh_22, pvSh_23, pvSh_24, pvSh_25, pvSh_26, pvSh_27, pvSh_28, pvSh_29, pvSh_30, pvSh_31, pvSh_32, pvSh_33, pvSh_34, pvSh_35, pvSh_36, pvSh_37, pvSh_38, pvSh_39, pvSh_40, pvSh_41, pvSh_42, pvSh_43, pvSh_44, pvSh_45, pvSh_46, pvSh_47, pvSh_48, pvSh_49, pvSh_50, pvSh_51, pvSh_52, pvSh_53, pvSh_54, pvSh_55, pvSh_56, pvSh_57, pvSh_58, pvSh_59, pvE_getfield, pvGf_0, pvGf_1, pvGf_2, pvRf_0_0, pvRf_0_1, pvRf_0_2, pvRf_0_3, pvRf_0_4, pvRf_0_5, pvRf_0_6, pvRf_0_7, pvRf_0_8, pvRf_0_9, pvRf_0_10, pvRf_1_0, pvRf_3_0, pvRf_5_0, pvRf_5_1, pvRf_5_2, pvRf_9_0, pvRf_9_1, pvRf_9_2, pvRf_13_0, pvRf_13_1, pvRf_13_2, pvRf_17_0, pvRf_17_2, pvRf_20_0, pvRf_20_1, pvRf_20_2, pvRf_24_0, pvRf_24_1, pvRf_24_2, pvRf_28_0, pvRf_28_1, pvRf_28_2, pvRf_28_3, pvRf_33_0, pvRf_33_1, pvRf_36_0, pvRf_36_1, pvRf_39_0, pvRf_39_1, pvRf_39_2, pvRf_39_5, pvRf_39_6, pvRf_39_9, pvRf_39_13, pvRf_39_15, pvRf_39_16, pvRf_39_17, pvRf_39_19, pvRf_39_20, pvRf_39_22, pvRf_39_23, pvRf_39_24, pvRf_39_25, pvRf_39_29, pvRf_39_30, pvE_if_le, pvE_ireturn, pvE_invokevirtual, aX10_marks_95, pvE_sipush, pvE_imul, pvE_iload, pvE_iadd, pvE_istore, pvS1, List.length_cons, List.length_nil, pvClr_i, pvClr_r, pvClr_l, pvClr_d, pvClr_f, pvClr_n, fX10_7, pvE_iaload, pvAI, pvE_ishr, pvE_iand, pvE_icmp_ne, pvE_iload_n3, pvE_icmp_eq, pvE_dup2, pvE_ishl, pvE_ixor, pvE_iastore, bX10_marks_0, uX10_marks_0, bX10_marks_19, uX10_marks_19, bX10_marks_20, uX10_marks_20, bX10_marks_32, uX10_marks_32, bX10_marks_65, uX10_marks_65, bX10_marks_66, uX10_marks_66, bX10_marks_87, uX10_marks_87, pvRecv_r, pvUp_nl, pvUp_same, pvUp_ap, pvSt_ap, pvX_c, pvX_ms, pvX_mn, pvE_nil, pvEn_i, pvEn_r, pvEn_l, pvEn_0, pvEn_s, pvRt, pvRv, pvTh, pvKc, pvGo, pvTgt, Int.toNat_natCast, false_and, and_false, true_and, and_true, if_true, if_false, reduceIte, reduceCtorEq, forall_const, false_or, or_false, true_or, or_true, ne_eq, not_true_eq_false, not_false_eq_true, implies_true, false_implies, Nat.reduceAdd, Nat.reduceSub, Nat.reduceMul, Nat.reduceEqDiff, Nat.reduceLT, Nat.reduceLeDiff, Int.reduceAdd, Int.reduceSub, Int.reduceMul, Int.reduceNeg, Int.reduceToNat, Int.reduceLE, Int.reduceLT, Int.reduceEq, Int.reduceNe, and_self]
      (repeat' (first | with_reducible apply And.intro | intro _))
      all_goals first
        | omega
        | skip
      all_goals
        rename_i z1 f1 k1 c1 e1 e2
        have g40 : z1.1 40 = z.1 40 := (f1.1 40 (by decide)).trans (show pvUp z.1 39 8 0 40 = z.1 40 from pvUp_ne (by decide))
        simp only [g40] at e1 ⊢
        rw [hb] at e1
        have f2 : frF [39, 40, 42] [] z z1 := frF_t (frF_u frF_0 (by decide)) f1 (by decide) (by decide)
        have c2 : chgF z z1 := chgF_8 c1
        have k8 : z1.1 39 8 = 0 := by rw [k1 8 (by decide)]; rfl
        have k2 : ∀ j, j ≠ 3 → j ≠ 8 → z1.1 39 j = z.1 39 j := fun j h1 h2 => by rw [k1 j h1, if_neg h2]
        cases hbt : btF (z.1 40 (163 * s + wh).toNat) q <;> simp only [hbt, Bool.false_eq_true, if_true, if_false, reduceIte, reduceCtorEq] at e1 em h3 <;> first | omega | skip
        all_goals first
          | (exfalso; simp at e1; done)
          | (rw [if_pos e2] at em
             exact h3 z1 f2 k2 k8 c2 (fun j _ => by rw [g40]) (by rw [g40, em]))
          | (rw [if_neg e2] at em
             exact h3 _ (frF_u f2 (by decide)) (fun j h1 h2 => by simp only [pvUp_ap, Nat.reduceEqDiff, false_and, if_false, reduceIte]; exact k2 j h1 h2) (by simp only [pvUp_ap, Nat.reduceEqDiff, false_and, if_false, reduceIte]; exact k8) (chgF_u c2) (fun j hj => by simp only [pvUp_ap, true_and, hj, if_false, reduceIte]; rw [g40]) (by simp only [pvUp_ap, and_self, if_true, reduceIte]; rw [em]))
    · have h3 := h1 hv
      simp only [C_X10_isSlot, C_X10_isState, C_X10_changes, pvE_aload_n0, pvLA_s, pvLd, pvE_iload_n1, pvLI_s, pvE_invokestatic (h0 := eX10_80), pvC1_s, pvC2_s, pvAf_v, pvAf_x, pvPop, pvCs, pvCat, pvPush, aX10_marks_80, pvE_if_eq, pvE_iload_n2, pvE_invokestatic (h0 := eX10_124), aX10_marks_124, pvE_iconst, pvE_goto, pvE_putfield, pvPf_0, pvPf_1, fX10_73, pvSh_0, pvSh_1, pvSh_2, pvSh_3, pvSh_4, pvSh_5, pvSh_6, pvSh_7, pvSh_8, pvSh_9, pvSh_10, pvSh_11, pvSh_12, pvSh_13, pvSh_14, pvSh_15, pvSh_16, pvSh_17, pvSh_18, pvSh_19, pvSh_20, pvSh_21, pvSh_22, pvSh_23, pvSh_24, pvSh_25, pvSh_26, pvSh_27, pvSh_28, pvSh_29, pvSh_30, pvSh_31, pvSh_32, pvSh_33, pvSh_34, pvSh_35, pvSh_36, pvSh_37, pvSh_38, pvSh_39, pvSh_40, pvSh_41, pvSh_42, pvSh_43, pvSh_44, pvSh_45, pvSh_46, pvSh_47, pvSh_48, pvSh_49, pvSh_50, pvSh_51, pvSh_52, pvSh_53, pvSh_54, pvSh_55, pvSh_56, pvSh_57, pvSh_58, pvSh_59, pvE_getfield, pvGf_0, pvGf_1, pvGf_2, pvRf_0_0, pvRf_0_1, pvRf_0_2, pvRf_0_3, pvRf_0_4, pvRf_0_5, pvRf_0_6, pvRf_0_7, pvRf_0_8, pvRf_0_9, pvRf_0_10, pvRf_1_0, pvRf_3_0, pvRf_5_0, pvRf_5_1, pvRf_5_2, pvRf_9_0, pvRf_9_1, pvRf_9_2, pvRf_13_0, pvRf_13_1, pvRf_13_2, pvRf_17_0, pvRf_17_2, pvRf_20_0, pvRf_20_1, pvRf_20_2, pvRf_24_0, pvRf_24_1, pvRf_24_2, pvRf_28_0, pvRf_28_1, pvRf_28_2, pvRf_28_3, pvRf_33_0, pvRf_33_1, pvRf_36_0, pvRf_36_1, pvRf_39_0, pvRf_39_1, pvRf_39_2, pvRf_39_5, pvRf_39_6, pvRf_39_9, pvRf_39_13, pvRf_39_15, pvRf_39_16, pvRf_39_17, pvRf_39_19, pvRf_39_20, pvRf_39_22, pvRf_39_23, pvRf_39_24, pvRf_39_25, pvRf_39_29, pvRf_39_30, pvE_if_le, pvE_ireturn, pvE_invokevirtual, aX10_marks_95, pvE_sipush, pvE_imul, pvE_iload, pvE_iadd, pvE_istore, pvS1, List.length_cons, List.length_nil, pvClr_i, pvClr_r, pvClr_l, pvClr_d, pvClr_f, pvClr_n, fX10_7, pvE_iaload, pvAI, pvE_ishr, pvE_iand, pvE_icmp_ne, pvE_iload_n3, pvE_icmp_eq, pvE_dup2, pvE_ishl, pvE_ixor, pvE_iastore, bX10_marks_0, uX10_marks_0, bX10_marks_19, uX10_marks_19, bX10_marks_20, uX10_marks_20, bX10_marks_32, uX10_marks_32, bX10_marks_65, uX10_marks_65, bX10_marks_66, uX10_marks_66, bX10_marks_87, uX10_marks_87, pvRecv_r, pvUp_nl, pvUp_same, pvUp_ap, pvSt_ap, pvX_c, pvX_ms, pvX_mn, pvE_nil, pvEn_i, pvEn_r, pvEn_l, pvEn_0, pvEn_s, pvRt, pvRv, pvTh, pvKc, pvGo, pvTgt, Int.toNat_natCast, false_and, and_false, true_and, and_true, if_true, if_false, reduceIte, reduceCtorEq, forall_const, false_or, or_false, true_or, or_true, ne_eq, not_true_eq_false, not_false_eq_true, implies_true, false_implies, Nat.reduceAdd, Nat.reduceSub, Nat.reduceMul, Nat.reduceEqDiff, Nat.reduceLT, Nat.reduceLeDiff, Int.reduceAdd, Int.reduceSub, Int.reduceMul, Int.reduceNeg, Int.reduceToNat, Int.reduceLE, Int.reduceLT, Int.reduceEq, Int.reduceNe, and_self]
      (repeat' (first | with_reducible apply And.intro | intro _))
      all_goals first
        | omega
        | assumption
  · exact h.elim
def C_X10_setInitial : pvC
  | [.inr (.inr (.inl id)), .inl s, .inl q, .inl on], z, Q => id = 39 ∧ ((0 ≤ z.1 39 3 ∧ z.1 39 3 ≤ 8) ∧ (on = 0 ∨ on = 1) ∧ ∀ s' : Int, 0 ≤ s' ∧ s' ≤ 1 → WfA (autR (z.1 40) s')) ∧
      (¬ ((0 ≤ s ∧ s ≤ 1) ∧ 0 ≤ q ∧ q ≤ 3) → Q (.inl (some (vI 0))) (pvUp z.1 39 8 1, z.2)) ∧
      ((0 ≤ s ∧ s ≤ 1) ∧ (0 ≤ q ∧ q ≤ 3) → ∀ z' : pvM, frF [39, 40, 42] [] z z' → (∀ j, j ≠ 3 → j ≠ 8 → z'.1 39 j = z.1 39 j) → z'.1 39 8 = 0 → chgF z z' → autR (z'.1 40) s = inA (autR (z.1 40) s) (msF (autR (z.1 40) s).2.1 q on) → (∀ s' : Int, 0 ≤ s' ∧ s' ≤ 1 → s' ≠ s → autR (z'.1 40) s' = autR (z.1 40) s') →
        Q (.inl (some (vI (if btF (autR (z.1 40) s).2.1 q then 1 else 0)))) z')
  | _, _, _ => False
def bX10_setInitial : Nat → List (Instr × Nat)
  | 0 => [(.aload_n 0, 1), (.iload_n 1, 1), (.iload_n 2, 1), (.iload_n 3, 1), (.iconst 0, 1), (.invokevirtual 138, 3), (.ireturn, 1)]
  | _ => []
def uX10_setInitial : Nat → Option (List Bool)
  | _ => none
def aX10_setInitial : pvCa
  | 138 => some (5, false, 9, 0, C_X10_marks)
  | _ => none
theorem bX10_setInitial_0 : bX10_setInitial 0 = [(.aload_n 0, 1), (.iload_n 1, 1), (.iload_n 2, 1), (.iload_n 3, 1), (.iconst 0, 1), (.invokevirtual 138, 3), (.ireturn, 1)] := rfl
theorem uX10_setInitial_0 : uX10_setInitial 0 = none := rfl
theorem aX10_setInitial_138 : aX10_setInitial 138 = some (5, false, 9, 0, C_X10_marks) := rfl
def mX10_setInitial : Room := { frames := 3, cells := 1, slots := 6, locals := 68 }
set_option maxRecDepth 100000 in
set_option maxHeartbeats 4000000 in
theorem okX10_setInitial : pvOkM fX10 aX10_setInitial kX10 eX10 (some .boolean) bX10_setInitial uX10_setInitial 4 C_X10_setInitial := by
  intro Q SW hc as z h hS hz
  unfold C_X10_setInitial at h
  split at h
  · rename_i id s q on
    obtain ⟨rfl, ⟨hp, ho, hw⟩, h1, h2⟩ := h
    refine ⟨Nat.le_of_ble_eq_true rfl, hc 20 _ _ _ fun _ _ => ?_⟩
    clear hc hS hz
    simp only [pvSt1]
    simp only [C_X10_marks, pvE_aload_n0, pvLA_s, pvLd, pvE_iload_n1, pvLI_s, pvE_iload_n2, pvE_iload_n3, pvE_iconst, pvE_invokevirtual, pvC1_s, pvC2_s, pvAf_v, pvAf_x, pvPop, pvCs, pvCat, pvPush, aX10_setInitial_138, pvSh_0, pvSh_1, pvSh_2, pvSh_3, pvSh_4, pvSh_5, pvSh_6, pvSh_7, pvSh_8, pvSh_9, pvSh_10, pvSh_11, pvSh_12, pvSh_13, pvSh_14, pvSh_15, pvSh_16, pvSh_17, pvSh_18, pvSh_19, pvSh_20, pvSh_21, pvSh_22, pvSh_23, pvSh_24, pvSh_25, pvSh_26, pvSh_27, pvSh_28, pvSh_29, pvSh_30, pvSh_31, pvSh_32, pvSh_33, pvSh_34, pvSh_35, pvSh_36, pvSh_37, pvSh_38, pvSh_39, pvSh_40, pvSh_41, pvSh_42, pvSh_43, pvSh_44, pvSh_45, pvSh_46, pvSh_47, pvSh_48, pvSh_49, pvSh_50, pvSh_51, pvSh_52, pvSh_53, pvSh_54, pvSh_55, pvSh_56, pvSh_57, pvSh_58, pvSh_59, pvE_ireturn, bX10_setInitial_0, uX10_setInitial_0, pvRecv_r, pvUp_nl, pvUp_same, pvUp_ap, pvSt_ap, pvX_c, pvX_ms, pvX_mn, pvE_nil, pvEn_i, pvEn_r, pvEn_l, pvEn_0, pvEn_s, pvRt, pvRv, pvTh, pvKc, pvGo, pvTgt, Int.toNat_natCast, false_and, and_false, true_and, and_true, if_true, if_false, reduceIte, reduceCtorEq, forall_const, false_or, or_false, true_or, or_true, ne_eq, not_true_eq_false, not_false_eq_true, implies_true, false_implies, Nat.reduceAdd, Nat.reduceSub, Nat.reduceMul, Nat.reduceEqDiff, Nat.reduceLT, Nat.reduceLeDiff, Int.reduceAdd, Int.reduceSub, Int.reduceMul, Int.reduceNeg, Int.reduceToNat, Int.reduceLE, Int.reduceLT, Int.reduceEq, Int.reduceNe, and_self]
    refine ⟨by omega, ⟨by omega, by omega, fun hs => ?_⟩, h1, fun hv z1 f1 k1 e8 c1 o1 o2 => ⟨by split <;> omega, ?_⟩⟩
    all_goals try obtain ⟨hs, hq⟩ := hv
    · have q := (hw s hs).2.1
      rw [show (163 * s + 0).toNat = 163 * s.toNat by omega]
      exact q
    · have en : (163 * s + 0).toNat = 163 * s.toNat := by omega
      rw [en] at o1 o2
      have h3 := h2 ⟨hs, hq⟩ z1 f1 k1 e8 c1 (by rw [autR_in (f := z.1 40) o1, o2]; rfl) (fun s' hs' hne => autR_same hs hs' hne (hw s' hs') (fun j hj => o1 j (by omega)))
      rw [en]
      exact h3
  · exact h.elim
def C_X10_setFinal : pvC
  | [.inr (.inr (.inl id)), .inl s, .inl q, .inl on], z, Q => id = 39 ∧ ((0 ≤ z.1 39 3 ∧ z.1 39 3 ≤ 8) ∧ (on = 0 ∨ on = 1) ∧ ∀ s' : Int, 0 ≤ s' ∧ s' ≤ 1 → WfA (autR (z.1 40) s')) ∧
      (¬ ((0 ≤ s ∧ s ≤ 1) ∧ 0 ≤ q ∧ q ≤ 3) → Q (.inl (some (vI 0))) (pvUp z.1 39 8 1, z.2)) ∧
      ((0 ≤ s ∧ s ≤ 1) ∧ (0 ≤ q ∧ q ≤ 3) → ∀ z' : pvM, frF [39, 40, 42] [] z z' → (∀ j, j ≠ 3 → j ≠ 8 → z'.1 39 j = z.1 39 j) → z'.1 39 8 = 0 → chgF z z' → autR (z'.1 40) s = fiA (autR (z.1 40) s) (msF (autR (z.1 40) s).2.2.1 q on) → (∀ s' : Int, 0 ≤ s' ∧ s' ≤ 1 → s' ≠ s → autR (z'.1 40) s' = autR (z.1 40) s') →
        Q (.inl (some (vI (if btF (autR (z.1 40) s).2.2.1 q then 1 else 0)))) z')
  | _, _, _ => False
def bX10_setFinal : Nat → List (Instr × Nat)
  | 0 => [(.aload_n 0, 1), (.iload_n 1, 1), (.iload_n 2, 1), (.iload_n 3, 1), (.iconst 1, 1), (.invokevirtual 138, 3), (.ireturn, 1)]
  | _ => []
def uX10_setFinal : Nat → Option (List Bool)
  | _ => none
def aX10_setFinal : pvCa
  | 138 => some (5, false, 9, 0, C_X10_marks)
  | _ => none
theorem bX10_setFinal_0 : bX10_setFinal 0 = [(.aload_n 0, 1), (.iload_n 1, 1), (.iload_n 2, 1), (.iload_n 3, 1), (.iconst 1, 1), (.invokevirtual 138, 3), (.ireturn, 1)] := rfl
theorem uX10_setFinal_0 : uX10_setFinal 0 = none := rfl
theorem aX10_setFinal_138 : aX10_setFinal 138 = some (5, false, 9, 0, C_X10_marks) := rfl
def mX10_setFinal : Room := { frames := 3, cells := 1, slots := 6, locals := 68 }
set_option maxRecDepth 100000 in
set_option maxHeartbeats 4000000 in
theorem okX10_setFinal : pvOkM fX10 aX10_setFinal kX10 eX10 (some .boolean) bX10_setFinal uX10_setFinal 4 C_X10_setFinal := by
  intro Q SW hc as z h hS hz
  unfold C_X10_setFinal at h
  split at h
  · rename_i id s q on
    obtain ⟨rfl, ⟨hp, ho, hw⟩, h1, h2⟩ := h
    refine ⟨Nat.le_of_ble_eq_true rfl, hc 20 _ _ _ fun _ _ => ?_⟩
    clear hc hS hz
    simp only [pvSt1]
    simp only [C_X10_marks, pvE_aload_n0, pvLA_s, pvLd, pvE_iload_n1, pvLI_s, pvE_iload_n2, pvE_iload_n3, pvE_iconst, pvE_invokevirtual, pvC1_s, pvC2_s, pvAf_v, pvAf_x, pvPop, pvCs, pvCat, pvPush, aX10_setFinal_138, pvSh_0, pvSh_1, pvSh_2, pvSh_3, pvSh_4, pvSh_5, pvSh_6, pvSh_7, pvSh_8, pvSh_9, pvSh_10, pvSh_11, pvSh_12, pvSh_13, pvSh_14, pvSh_15, pvSh_16, pvSh_17, pvSh_18, pvSh_19, pvSh_20, pvSh_21, pvSh_22, pvSh_23, pvSh_24, pvSh_25, pvSh_26, pvSh_27, pvSh_28, pvSh_29, pvSh_30, pvSh_31, pvSh_32, pvSh_33, pvSh_34, pvSh_35, pvSh_36, pvSh_37, pvSh_38, pvSh_39, pvSh_40, pvSh_41, pvSh_42, pvSh_43, pvSh_44, pvSh_45, pvSh_46, pvSh_47, pvSh_48, pvSh_49, pvSh_50, pvSh_51, pvSh_52, pvSh_53, pvSh_54, pvSh_55, pvSh_56, pvSh_57, pvSh_58, pvSh_59, pvE_ireturn, bX10_setFinal_0, uX10_setFinal_0, pvRecv_r, pvUp_nl, pvUp_same, pvUp_ap, pvSt_ap, pvX_c, pvX_ms, pvX_mn, pvE_nil, pvEn_i, pvEn_r, pvEn_l, pvEn_0, pvEn_s, pvRt, pvRv, pvTh, pvKc, pvGo, pvTgt, Int.toNat_natCast, false_and, and_false, true_and, and_true, if_true, if_false, reduceIte, reduceCtorEq, forall_const, false_or, or_false, true_or, or_true, ne_eq, not_true_eq_false, not_false_eq_true, implies_true, false_implies, Nat.reduceAdd, Nat.reduceSub, Nat.reduceMul, Nat.reduceEqDiff, Nat.reduceLT, Nat.reduceLeDiff, Int.reduceAdd, Int.reduceSub, Int.reduceMul, Int.reduceNeg, Int.reduceToNat, Int.reduceLE, Int.reduceLT, Int.reduceEq, Int.reduceNe, and_self]
    refine ⟨by omega, ⟨by omega, by omega, fun hs => ?_⟩, h1, fun hv z1 f1 k1 e8 c1 o1 o2 => ⟨by split <;> omega, ?_⟩⟩
    all_goals try obtain ⟨hs, hq⟩ := hv
    · have q := (hw s hs).2.2.1
      rw [show (163 * s + 1).toNat = 163 * s.toNat + 1 by omega]
      exact q
    · have en : (163 * s + 1).toNat = 163 * s.toNat + 1 := by omega
      rw [en] at o1 o2
      have h3 := h2 ⟨hs, hq⟩ z1 f1 k1 e8 c1 (by rw [autR_fi (f := z.1 40) o1, o2]; rfl) (fun s' hs' hne => autR_same hs hs' hne (hw s' hs') (fun j hj => o1 j (by omega)))
      rw [en]
      exact h3
  · exact h.elim
def C_X10_copyAutomaton : pvC
  | [.inr (.inr (.inl id)), .inl s], z, Q => id = 39 ∧ ((0 ≤ z.1 39 3 ∧ z.1 39 3 ≤ 8) ∧ ∀ s' : Int, 0 ≤ s' ∧ s' ≤ 1 → WfA (autR (z.1 40) s')) ∧
      (¬ (0 ≤ s ∧ s ≤ 1) → Q (.inl none) (pvUp z.1 39 8 1, z.2)) ∧
      (0 ≤ s ∧ s ≤ 1 → ∀ z' : pvM, frF [39, 40, 42] [] z z' → (∀ j, j ≠ 3 → j ≠ 8 → z'.1 39 j = z.1 39 j) → z'.1 39 8 = 0 → chgF z z' → (∀ s' : Int, 0 ≤ s' ∧ s' ≤ 1 → autR (z'.1 40) s' = autR (z.1 40) s) → Q (.inl none) z')
  | _, _, _ => False
def bX10_copyAutomaton : Nat → List (Instr × Nat)
  | 0 => [(.aload_n 0, 1), (.iload_n 1, 1), (.invokestatic 80, 3), (.ifCond .eq 7, 3), (.iconst 0, 1), (.goto 4, 3)]
  | 12 => [(.iconst 1, 1)]
  | 13 => [(.putfield 73, 3), (.aload_n 0, 1), (.getfield 73, 3), (.ifCond .le 4, 3), (.return_, 1)]
  | 24 => [(.aload_n 0, 1), (.invokevirtual 95, 3), (.iconst 0, 1), (.istore_n 2, 1)]
  | 30 => [(.iload_n 2, 1), (.sipush 163, 3), (.if_icmp .ge 35, 3), (.aload_n 0, 1), (.getfield 7, 3), (.sipush 163, 3), (.iconst 1, 1), (.iload_n 1, 1), (.isub, 1), (.imul, 1), (.iload_n 2, 1), (.iadd, 1), (.aload_n 0, 1), (.getfield 7, 3), (.sipush 163, 3), (.iload_n 1, 1), (.imul, 1), (.iload_n 2, 1), (.iadd, 1), (.iaload, 1), (.iastore, 1), (.iinc 2 1, 3), (.goto (-36), 3)]
  | 69 => [(.return_, 1)]
  | _ => []
def uX10_copyAutomaton : Nat → Option (List Bool)
  | 30 => some [true, true, true]
  | _ => none
def aX10_copyAutomaton : pvCa
  | 80 => some (1, true, 0, 0, C_X10_isSlot)
  | 95 => some (1, false, 9, 0, C_X10_changes)
  | _ => none
theorem bX10_copyAutomaton_0 : bX10_copyAutomaton 0 = [(.aload_n 0, 1), (.iload_n 1, 1), (.invokestatic 80, 3), (.ifCond .eq 7, 3), (.iconst 0, 1), (.goto 4, 3)] := rfl
theorem uX10_copyAutomaton_0 : uX10_copyAutomaton 0 = none := rfl
theorem bX10_copyAutomaton_12 : bX10_copyAutomaton 12 = [(.iconst 1, 1)] := rfl
theorem uX10_copyAutomaton_12 : uX10_copyAutomaton 12 = none := rfl
theorem bX10_copyAutomaton_13 : bX10_copyAutomaton 13 = [(.putfield 73, 3), (.aload_n 0, 1), (.getfield 73, 3), (.ifCond .le 4, 3), (.return_, 1)] := rfl
theorem uX10_copyAutomaton_13 : uX10_copyAutomaton 13 = none := rfl
theorem bX10_copyAutomaton_24 : bX10_copyAutomaton 24 = [(.aload_n 0, 1), (.invokevirtual 95, 3), (.iconst 0, 1), (.istore_n 2, 1)] := rfl
theorem uX10_copyAutomaton_24 : uX10_copyAutomaton 24 = none := rfl
theorem bX10_copyAutomaton_30 : bX10_copyAutomaton 30 = [(.iload_n 2, 1), (.sipush 163, 3), (.if_icmp .ge 35, 3), (.aload_n 0, 1), (.getfield 7, 3), (.sipush 163, 3), (.iconst 1, 1), (.iload_n 1, 1), (.isub, 1), (.imul, 1), (.iload_n 2, 1), (.iadd, 1), (.aload_n 0, 1), (.getfield 7, 3), (.sipush 163, 3), (.iload_n 1, 1), (.imul, 1), (.iload_n 2, 1), (.iadd, 1), (.iaload, 1), (.iastore, 1), (.iinc 2 1, 3), (.goto (-36), 3)] := rfl
theorem uX10_copyAutomaton_30 : uX10_copyAutomaton 30 = some [true, true, true] := rfl
theorem bX10_copyAutomaton_69 : bX10_copyAutomaton 69 = [(.return_, 1)] := rfl
theorem uX10_copyAutomaton_69 : uX10_copyAutomaton 69 = none := rfl
theorem aX10_copyAutomaton_80 : aX10_copyAutomaton 80 = some (1, true, 0, 0, C_X10_isSlot) := rfl
theorem aX10_copyAutomaton_95 : aX10_copyAutomaton 95 = some (1, false, 9, 0, C_X10_changes) := rfl
def mX10_copyAutomaton : Room := { frames := 2, cells := 1, slots := 6, locals := 42 }
set_option maxRecDepth 100000 in
set_option maxHeartbeats 4000000 in
theorem okX10_copyAutomaton : pvOkM fX10 aX10_copyAutomaton kX10 eX10 none bX10_copyAutomaton uX10_copyAutomaton 3 C_X10_copyAutomaton := by
  intro Q SW hc as z h hS hz
  unfold C_X10_copyAutomaton at h
  split at h
  · rename_i id s
    obtain ⟨rfl, ⟨hp, hw⟩, h1, h2⟩ := h
    refine ⟨Nat.le_of_ble_eq_true rfl, ?_⟩
    have loop : ∀ (m k : Nat) (z' : pvM), k + m = 163 → 0 ≤ s ∧ s ≤ 1 → frF [39, 40, 42] [] z z' → (∀ j, j ≠ 3 → j ≠ 8 → z'.1 39 j = z.1 39 j) → z'.1 39 8 = 0 → chgF z z' → (∀ j : Nat, j < 163 → z'.1 40 (163 * s.toNat + j) = z.1 40 (163 * s.toNat + j)) → (∀ j : Nat, j < k → z'.1 40 (163 * (1 - s).toNat + j) = z.1 40 (163 * s.toNat + j)) →
        SW 30 [some (vR 39), some (vI s), some (vI (k : Int))] z' := by
      intro m
      induction m using Nat.strongRecOn with
      | _ m ih =>
        intro k z' hk hs hf h3 h4 h5 h6 h7
        have n1 : (163 * (1 - s) + (k : Int)).toNat = 163 * (1 - s).toNat + k := by omega
        have n2 : (163 * s + (k : Int)).toNat = 163 * s.toNat + k := by omega
        refine hc 20 _ _ _ fun _ _ => ?_
        simp only [pvSt1]
        simp only [n1, n2, pvE_aload_n0, pvLA_s, pvLd, pvE_iload_n1, pvLI_s, pvE_invokestatic (h0 := eX10_80), pvC1_s, pvC2_s, pvAf_v, pvAf_x, pvPop, pvCs, pvCat, pvPush, aX10_copyAutomaton_80, pvE_if_eq, pvE_iconst, pvE_goto, pvE_putfield, pvPf_0, pvPf_1, fX10_73, pvSh_0, pvSh_1, pvSh_2, pvSh_3, pvSh_4, pvSh_5, pvSh_6, pvSh_7, pvSh_8, pvSh_9, pvSh_10, pvSh_11, pvSh_12, pvSh_13, pvSh_14, pvSh_15, pvSh_16, pvSh_17, pvSh_18, pvSh_19, pvSh_20, pvSh_21, pvSh_22, pvSh_23, pvSh_24, pvSh_25, pvSh_26, pvSh_27, pvSh_28, pvSh_29, pvSh_30, pvSh_31, pvSh_32, pvSh_33, pvSh_34, pvSh_35, pvSh_36, pvSh_37, pvSh_38, pvSh_39, pvSh_40, pvSh_41, pvSh_42, pvSh_43, pvSh_44, pvSh_45, pvSh_46, pvSh_47, pvSh_48, pvSh_49, pvSh_50, pvSh_51, pvSh_52, pvSh_53, pvSh_54, pvSh_55, pvSh_56, pvSh_57, pvSh_58, pvSh_59, pvE_getfield, pvGf_0, pvGf_1, pvGf_2, pvRf_0_0, pvRf_0_1, pvRf_0_2, pvRf_0_3, pvRf_0_4, pvRf_0_5, pvRf_0_6, pvRf_0_7, pvRf_0_8, pvRf_0_9, pvRf_0_10, pvRf_1_0, pvRf_3_0, pvRf_5_0, pvRf_5_1, pvRf_5_2, pvRf_9_0, pvRf_9_1, pvRf_9_2, pvRf_13_0, pvRf_13_1, pvRf_13_2, pvRf_17_0, pvRf_17_2, pvRf_20_0, pvRf_20_1, pvRf_20_2, pvRf_24_0, pvRf_24_1, pvRf_24_2, pvRf_28_0, pvRf_28_1, pvRf_28_2, pvRf_28_3, pvRf_33_0, pvRf_33_1, pvRf_36_0, pvRf_36_1, pvRf_39_0, pvRf_39_1, pvRf_39_2, pvRf_39_5, pvRf_39_6, pvRf_39_9, pvRf_39_13, pvRf_39_15, pvRf_39_16, pvRf_39_17, pvRf_39_19, pvRf_39_20, pvRf_39_22, pvRf_39_23, pvRf_39_24, pvRf_39_25, pvRf_39_29, pvRf_39_30, pvE_if_le, pvE_return, pvE_invokevirtual, aX10_copyAutomaton_95, pvE_istore_n2, pvS1, List.length_cons, List.length_nil, pvClr_i, pvClr_r, pvClr_l, pvClr_d, pvClr_f, pvClr_n, pvE_iload_n2, pvE_sipush, pvE_icmp_ge, fX10_7, pvE_isub, pvE_imul, pvE_iadd, pvE_iaload, pvAI, pvE_iastore, pvE_iinc, pvIc_s, bX10_copyAutomaton_0, uX10_copyAutomaton_0, bX10_copyAutomaton_12, uX10_copyAutomaton_12, bX10_copyAutomaton_13, uX10_copyAutomaton_13, bX10_copyAutomaton_24, uX10_copyAutomaton_24, bX10_copyAutomaton_30, uX10_copyAutomaton_30, bX10_copyAutomaton_69, uX10_copyAutomaton_69, pvMk_t, pvMk_f, pvMk_n, pvRecv_r, pvUp_nl, pvUp_same, pvUp_ap, pvSt_ap, pvX_c, pvX_ms, pvX_mn, pvE_nil, pvEn_i, pvEn_r, pvEn_l, pvEn_0, pvEn_s, pvRt, pvRv, pvTh, pvKc, pvGo, pvTgt, Int.toNat_natCast, false_and, and_false, true_and, and_true, if_true, if_false, reduceIte, reduceCtorEq, forall_const, false_or, or_false, true_or, or_true, ne_eq, not_true_eq_false, not_false_eq_true, implies_true, false_implies, Nat.reduceAdd, Nat.reduceSub, Nat.reduceMul, Nat.reduceEqDiff, Nat.reduceLT, Nat.reduceLeDiff, Int.reduceAdd, Int.reduceSub, Int.reduceMul, Int.reduceNeg, Int.reduceToNat, Int.reduceLE, Int.reduceLT, Int.reduceEq, Int.reduceNe, and_self]
        by_cases hx : 163 ≤ k
        · (repeat' (first | with_reducible apply And.intro | intro _))
          all_goals first
            | omega
            | contradiction
            | (refine h2 hs z' hf h3 h4 h5 (fun s' hs' => ?_)
               by_cases e : s' = s
               · subst e
                 exact autR_ext (hw _ hs) (fun j hj => h6 j hj)
               · obtain rfl : s' = 1 - s := by omega
                 exact autR_ext (hw _ hs) (fun j hj => h7 j (by omega)))
        · have ihk := ih (m - 1) (by omega) (k + 1) (pvUp z'.1 40 (163 * (1 - s).toNat + k) (z'.1 40 (163 * s.toNat + k)), z'.2) (by omega) hs (by (repeat' first | assumption | exact frF_0 | (refine frF_u ?_ (by decide)) | (refine frF_s ?_ (by decide)) | (refine frF_l ?_ (by decide)))) (fun j h1 h2 => by simp only [pvUp_ap, Nat.reduceEqDiff, false_and, if_false, reduceIte]; exact h3 j h1 h2) (by simp only [pvUp_ap, Nat.reduceEqDiff, false_and, if_false, reduceIte]; exact h4) (chgF_u h5) (fun j hj => by simp only [pvUp_ap]; rw [if_neg (by omega)]; exact h6 j hj) (fun j hj => by
            simp only [pvUp_ap]
            by_cases e : j = k
            · subst e
              rw [if_pos (by simp)]
              exact h6 j (by omega)
            · rw [if_neg (by omega)]
              exact h7 j (by omega))
          (repeat' (first | with_reducible apply And.intro | intro _))
          all_goals first
            | omega
            | contradiction
            | exact ihk
    refine hc 20 _ _ _ fun _ _ => ?_
    simp only [pvSt1]
    simp only [C_X10_isSlot, C_X10_changes, pvE_aload_n0, pvLA_s, pvLd, pvE_iload_n1, pvLI_s, pvE_invokestatic (h0 := eX10_80), pvC1_s, pvC2_s, pvAf_v, pvAf_x, pvPop, pvCs, pvCat, pvPush, aX10_copyAutomaton_80, pvE_if_eq, pvE_iconst, pvE_goto, pvE_putfield, pvPf_0, pvPf_1, fX10_73, pvSh_0, pvSh_1, pvSh_2, pvSh_3, pvSh_4, pvSh_5, pvSh_6, pvSh_7, pvSh_8, pvSh_9, pvSh_10, pvSh_11, pvSh_12, pvSh_13, pvSh_14, pvSh_15, pvSh_16, pvSh_17, pvSh_18, pvSh_19, pvSh_20, pvSh_21, pvSh_22, pvSh_23, pvSh_24, pvSh_25, pvSh_26, pvSh_27, pvSh_28, pvSh_29, pvSh_30, pvSh_31, pvSh_32, pvSh_33, pvSh_34, pvSh_35, pvSh_36, pvSh_37, pvSh_38, pvSh_39, pvSh_40, pvSh_41, pvSh_42, pvSh_43, pvSh_44, pvSh_45, pvSh_46, pvSh_47, pvSh_48, pvSh_49, pvSh_50, pvSh_51, pvSh_52, pvSh_53, pvSh_54, pvSh_55, pvSh_56, pvSh_57, pvSh_58, pvSh_59, pvE_getfield, pvGf_0, pvGf_1, pvGf_2, pvRf_0_0, pvRf_0_1, pvRf_0_2, pvRf_0_3, pvRf_0_4, pvRf_0_5, pvRf_0_6, pvRf_0_7, pvRf_0_8, pvRf_0_9, pvRf_0_10, pvRf_1_0, pvRf_3_0, pvRf_5_0, pvRf_5_1, pvRf_5_2, pvRf_9_0, pvRf_9_1, pvRf_9_2, pvRf_13_0, pvRf_13_1, pvRf_13_2, pvRf_17_0, pvRf_17_2, pvRf_20_0, pvRf_20_1, pvRf_20_2, pvRf_24_0, pvRf_24_1, pvRf_24_2, pvRf_28_0, pvRf_28_1, pvRf_28_2, pvRf_28_3, pvRf_33_0, pvRf_33_1, pvRf_36_0, pvRf_36_1, pvRf_39_0, pvRf_39_1, pvRf_39_2, pvRf_39_5, pvRf_39_6, pvRf_39_9, pvRf_39_13, pvRf_39_15, pvRf_39_16, pvRf_39_17, pvRf_39_19, pvRf_39_20, pvRf_39_22, pvRf_39_23, pvRf_39_24, pvRf_39_25, pvRf_39_29, pvRf_39_30, pvE_if_le, pvE_return, pvE_invokevirtual, aX10_copyAutomaton_95, pvE_istore_n2, pvS1, List.length_cons, List.length_nil, pvClr_i, pvClr_r, pvClr_l, pvClr_d, pvClr_f, pvClr_n, pvE_iload_n2, pvE_sipush, pvE_icmp_ge, fX10_7, pvE_isub, pvE_imul, pvE_iadd, pvE_iaload, pvAI, pvE_iastore, pvE_iinc, pvIc_s, bX10_copyAutomaton_0, uX10_copyAutomaton_0, bX10_copyAutomaton_12, uX10_copyAutomaton_12, bX10_copyAutomaton_13, uX10_copyAutomaton_13, bX10_copyAutomaton_24, uX10_copyAutomaton_24, bX10_copyAutomaton_30, uX10_copyAutomaton_30, bX10_copyAutomaton_69, uX10_copyAutomaton_69, pvMk_t, pvMk_f, pvMk_n, pvRecv_r, pvUp_nl, pvUp_same, pvUp_ap, pvSt_ap, pvX_c, pvX_ms, pvX_mn, pvE_nil, pvEn_i, pvEn_r, pvEn_l, pvEn_0, pvEn_s, pvRt, pvRv, pvTh, pvKc, pvGo, pvTgt, Int.toNat_natCast, false_and, and_false, true_and, and_true, if_true, if_false, reduceIte, reduceCtorEq, forall_const, false_or, or_false, true_or, or_true, ne_eq, not_true_eq_false, not_false_eq_true, implies_true, false_implies, Nat.reduceAdd, Nat.reduceSub, Nat.reduceMul, Nat.reduceEqDiff, Nat.reduceLT, Nat.reduceLeDiff, Int.reduceAdd, Int.reduceSub, Int.reduceMul, Int.reduceNeg, Int.reduceToNat, Int.reduceLE, Int.reduceLT, Int.reduceEq, Int.reduceNe, and_self]
    (repeat' (first | with_reducible apply And.intro | intro _))
    all_goals first
      | omega
      | exact h1 (by omega)
      | (rename_i z1 f1 k1 c1
         have g40 : z1.1 40 = z.1 40 := (f1.1 40 (by decide)).trans (show pvUp z.1 39 8 0 40 = z.1 40 from pvUp_ne (by decide))
         exact loop 163 0 z1 rfl (by omega) (frF_t (frF_u frF_0 (by decide)) f1 (by decide) (by decide)) (fun j h1 h2 => by rw [k1 j h1, if_neg h2]) (by rw [k1 8 (by decide)]; rfl) (chgF_8 c1) (fun j hj => by rw [g40]) (fun j hj => absurd hj (Nat.not_lt_zero j)))
  · exact h.elim
def C_X10_clearAutomaton : pvC
  | [.inr (.inr (.inl id)), .inl s], z, Q => id = 39 ∧ ((0 ≤ z.1 39 3 ∧ z.1 39 3 ≤ 8) ∧ ∀ s' : Int, 0 ≤ s' ∧ s' ≤ 1 → WfA (autR (z.1 40) s')) ∧
      (¬ (0 ≤ s ∧ s ≤ 1) → Q (.inl none) (pvUp z.1 39 8 1, z.2)) ∧
      (0 ≤ s ∧ s ≤ 1 → ∀ z' : pvM, frF [39, 40, 42] [] z z' → (∀ j, j ≠ 3 → j ≠ 8 → z'.1 39 j = z.1 39 j) → z'.1 39 8 = 0 → chgF z z' → autR (z'.1 40) s = clA → (∀ s' : Int, 0 ≤ s' ∧ s' ≤ 1 → s' ≠ s → autR (z'.1 40) s' = autR (z.1 40) s') → Q (.inl none) z')
  | _, _, _ => False
def bX10_clearAutomaton : Nat → List (Instr × Nat)
  | 0 => [(.aload_n 0, 1), (.iload_n 1, 1), (.invokestatic 80, 3), (.ifCond .eq 7, 3), (.iconst 0, 1), (.goto 4, 3)]
  | 12 => [(.iconst 1, 1)]
  | 13 => [(.putfield 73, 3), (.aload_n 0, 1), (.getfield 73, 3), (.ifCond .le 4, 3), (.return_, 1)]
  | 24 => [(.aload_n 0, 1), (.invokevirtual 95, 3), (.aload_n 0, 1), (.iload_n 1, 1), (.invokevirtual 69, 3), (.return_, 1)]
  | _ => []
def uX10_clearAutomaton : Nat → Option (List Bool)
  | _ => none
def aX10_clearAutomaton : pvCa
  | 69 => some (2, false, 9, 0, C_X10_clears)
  | 80 => some (1, true, 0, 0, C_X10_isSlot)
  | 95 => some (1, false, 9, 0, C_X10_changes)
  | _ => none
theorem bX10_clearAutomaton_0 : bX10_clearAutomaton 0 = [(.aload_n 0, 1), (.iload_n 1, 1), (.invokestatic 80, 3), (.ifCond .eq 7, 3), (.iconst 0, 1), (.goto 4, 3)] := rfl
theorem uX10_clearAutomaton_0 : uX10_clearAutomaton 0 = none := rfl
theorem bX10_clearAutomaton_12 : bX10_clearAutomaton 12 = [(.iconst 1, 1)] := rfl
theorem uX10_clearAutomaton_12 : uX10_clearAutomaton 12 = none := rfl
theorem bX10_clearAutomaton_13 : bX10_clearAutomaton 13 = [(.putfield 73, 3), (.aload_n 0, 1), (.getfield 73, 3), (.ifCond .le 4, 3), (.return_, 1)] := rfl
theorem uX10_clearAutomaton_13 : uX10_clearAutomaton 13 = none := rfl
theorem bX10_clearAutomaton_24 : bX10_clearAutomaton 24 = [(.aload_n 0, 1), (.invokevirtual 95, 3), (.aload_n 0, 1), (.iload_n 1, 1), (.invokevirtual 69, 3), (.return_, 1)] := rfl
theorem uX10_clearAutomaton_24 : uX10_clearAutomaton 24 = none := rfl
theorem aX10_clearAutomaton_69 : aX10_clearAutomaton 69 = some (2, false, 9, 0, C_X10_clears) := rfl
theorem aX10_clearAutomaton_80 : aX10_clearAutomaton 80 = some (1, true, 0, 0, C_X10_isSlot) := rfl
theorem aX10_clearAutomaton_95 : aX10_clearAutomaton 95 = some (1, false, 9, 0, C_X10_changes) := rfl
def mX10_clearAutomaton : Room := { frames := 2, cells := 1, slots := 6, locals := 42 }
set_option maxRecDepth 100000 in
set_option maxHeartbeats 4000000 in
theorem okX10_clearAutomaton : pvOkM fX10 aX10_clearAutomaton kX10 eX10 none bX10_clearAutomaton uX10_clearAutomaton 2 C_X10_clearAutomaton := by
  intro Q SW hc as z h hS hz
  unfold C_X10_clearAutomaton at h
  split at h
  · rename_i id s
    obtain ⟨rfl, ⟨hp, hw⟩, h1, h2⟩ := h
    refine ⟨Nat.le_of_ble_eq_true rfl, hc 20 _ _ _ fun _ _ => ?_⟩
    clear hc hS hz
    simp only [pvSt1]
    simp only [C_X10_isSlot, C_X10_changes, C_X10_clears, pvE_aload_n0, pvLA_s, pvLd, pvE_iload_n1, pvLI_s, pvE_invokestatic (h0 := eX10_80), pvC1_s, pvC2_s, pvAf_v, pvAf_x, pvPop, pvCs, pvCat, pvPush, aX10_clearAutomaton_80, pvE_if_eq, pvE_iconst, pvE_goto, pvE_putfield, pvPf_0, pvPf_1, fX10_73, pvSh_0, pvSh_1, pvSh_2, pvSh_3, pvSh_4, pvSh_5, pvSh_6, pvSh_7, pvSh_8, pvSh_9, pvSh_10, pvSh_11, pvSh_12, pvSh_13, pvSh_14, pvSh_15, pvSh_16, pvSh_17, pvSh_18, pvSh_19, pvSh_20, pvSh_21, pvSh_22, pvSh_23, pvSh_24, pvSh_25, pvSh_26, pvSh_27, pvSh_28, pvSh_29, pvSh_30, pvSh_31, pvSh_32, pvSh_33, pvSh_34, pvSh_35, pvSh_36, pvSh_37, pvSh_38, pvSh_39, pvSh_40, pvSh_41, pvSh_42, pvSh_43, pvSh_44, pvSh_45, pvSh_46, pvSh_47, pvSh_48, pvSh_49, pvSh_50, pvSh_51, pvSh_52, pvSh_53, pvSh_54, pvSh_55, pvSh_56, pvSh_57, pvSh_58, pvSh_59, pvE_getfield, pvGf_0, pvGf_1, pvGf_2, pvRf_0_0, pvRf_0_1, pvRf_0_2, pvRf_0_3, pvRf_0_4, pvRf_0_5, pvRf_0_6, pvRf_0_7, pvRf_0_8, pvRf_0_9, pvRf_0_10, pvRf_1_0, pvRf_3_0, pvRf_5_0, pvRf_5_1, pvRf_5_2, pvRf_9_0, pvRf_9_1, pvRf_9_2, pvRf_13_0, pvRf_13_1, pvRf_13_2, pvRf_17_0, pvRf_17_2, pvRf_20_0, pvRf_20_1, pvRf_20_2, pvRf_24_0, pvRf_24_1, pvRf_24_2, pvRf_28_0, pvRf_28_1, pvRf_28_2, pvRf_28_3, pvRf_33_0, pvRf_33_1, pvRf_36_0, pvRf_36_1, pvRf_39_0, pvRf_39_1, pvRf_39_2, pvRf_39_5, pvRf_39_6, pvRf_39_9, pvRf_39_13, pvRf_39_15, pvRf_39_16, pvRf_39_17, pvRf_39_19, pvRf_39_20, pvRf_39_22, pvRf_39_23, pvRf_39_24, pvRf_39_25, pvRf_39_29, pvRf_39_30, pvE_if_le, pvE_return, pvE_invokevirtual, aX10_clearAutomaton_95, aX10_clearAutomaton_69, bX10_clearAutomaton_0, uX10_clearAutomaton_0, bX10_clearAutomaton_12, uX10_clearAutomaton_12, bX10_clearAutomaton_13, uX10_clearAutomaton_13, bX10_clearAutomaton_24, uX10_clearAutomaton_24, pvRecv_r, pvUp_nl, pvUp_same, pvUp_ap, pvSt_ap, pvX_c, pvX_ms, pvX_mn, pvE_nil, pvEn_i, pvEn_r, pvEn_l, pvEn_0, pvEn_s, pvRt, pvRv, pvTh, pvKc, pvGo, pvTgt, Int.toNat_natCast, false_and, and_false, true_and, and_true, if_true, if_false, reduceIte, reduceCtorEq, forall_const, false_or, or_false, true_or, or_true, ne_eq, not_true_eq_false, not_false_eq_true, implies_true, false_implies, Nat.reduceAdd, Nat.reduceSub, Nat.reduceMul, Nat.reduceEqDiff, Nat.reduceLT, Nat.reduceLeDiff, Int.reduceAdd, Int.reduceSub, Int.reduceMul, Int.reduceNeg, Int.reduceToNat, Int.reduceLE, Int.reduceLT, Int.reduceEq, Int.reduceNe, and_self]
    (repeat' (first | with_reducible apply And.intro | intro _))
    all_goals first
      | omega
      | exact h1 (by omega)
      | skip
    all_goals
      rename_i z1 f1 k1 c1 z2 f2 o1 o2 o3
      have g40 : z1.1 40 = z.1 40 := (f1.1 40 (by decide)).trans (show pvUp z.1 39 8 0 40 = z.1 40 from pvUp_ne (by decide))
      have g39 : z2.1 39 = z1.1 39 := f2.1 39 (by decide)
      rw [g40] at o1
      refine h2 (by omega) z2 (frF_t (frF_t (frF_u frF_0 (by decide)) f1 (by decide) (by decide)) f2 (by decide) (by decide)) (fun j h1 h2 => by rw [g39, k1 j h1, if_neg h2]) (by rw [g39, k1 8 (by decide)]; rfl) (chgF_m (chgF_8 c1) (by rw [g39]) (f2.1 42 (by decide))) ?_ (fun s' hs' hne => autR_same (by omega) hs' hne (hw s' hs') o1)
      unfold autR
      rw [o3 (163 * s.toNat + 2) (by omega) (by omega), o3 (163 * s.toNat + 1) (by omega) (by omega), show 163 * s.toNat = (163 * s).toNat by omega, o2]
      refine congrArg (fun x : Nat → Nat → Int => ((0 : Int), (1 : Int), (0 : Int), x)) ?_
      funext t
      rw [if_neg (by omega)]
  · exact h.elim
def C_X10_addTransition : pvC
  | [.inr (.inr (.inl id)), .inl s, .inl q, .inl a, .inl r], z, Q => id = 39 ∧ ((0 ≤ z.1 39 3 ∧ z.1 39 3 ≤ 8) ∧ (0 ≤ z.1 39 10 ∧ z.1 39 10 ≤ 30) ∧ (∀ k : Nat, (k : Int) < z.1 39 10 → 0 ≤ z.1 45 k ∧ z.1 45 k ≤ 126) ∧ ∀ s' : Int, 0 ≤ s' ∧ s' ≤ 1 → WfA (autR (z.1 40) s')) ∧
      (¬ ((0 ≤ s ∧ s ≤ 1) ∧ (0 ≤ q ∧ q ≤ 3) ∧ (0 ≤ a ∧ a ≤ 2) ∧ 0 ≤ r ∧ r ≤ 3) → Q (.inl (some (vI 0))) (pvUp z.1 39 8 1, z.2)) ∧
      ((0 ≤ s ∧ s ≤ 1) ∧ (0 ≤ q ∧ q ≤ 3) ∧ (0 ≤ a ∧ a ≤ 2) ∧ (0 ≤ r ∧ r ≤ 3) → ∀ z' : pvM, (∀ j, j ≠ 3 → j ≠ 8 → j ≠ 10 → j ≠ 11 → j ≠ 12 → j ≠ 14 → z'.1 39 j = z.1 39 j) → z'.1 39 10 = 0 → z'.1 39 12 = (rtF (z.1 45) (z.1 39 10)).1 →
        (0 ≤ (rtF (z.1 45) (z.1 39 10)).1 → frF [39, 46] [] z z' → z'.1 39 3 = z.1 39 3 → z'.1 39 8 = 2 → Q (.inl (some (vI 0))) z') ∧
        ((rtF (z.1 45) (z.1 39 10)).1 < 0 → (autR (z.1 40) s).1 = 10 → frF [39, 46] [] z z' → z'.1 39 3 = z.1 39 3 → z'.1 39 8 = 3 → Q (.inl (some (vI 0))) z') ∧
        ((rtF (z.1 45) (z.1 39 10)).1 < 0 → (autR (z.1 40) s).1 ≠ 10 → frF [39, 40, 42, 46] [] z z' → z'.1 39 8 = 0 → chgF z z' → autR (z'.1 40) s = adA (autR (z.1 40) s) q a r (rtF (z.1 45) (z.1 39 10)).2.1 (rtF (z.1 45) (z.1 39 10)).2.2 → (∀ s' : Int, 0 ≤ s' ∧ s' ≤ 1 → s' ≠ s → autR (z'.1 40) s' = autR (z.1 40) s') → Q (.inl (some (vI (autR (z.1 40) s).1))) z'))
  | _, _, _ => False
def bX10_addTransition : Nat → List (Instr × Nat)
  | 0 => [(.aload_n 0, 1), (.iconst 0, 1), (.putfield 73, 3), (.iload_n 1, 1), (.invokestatic 80, 3), (.ifCond .eq 25, 3), (.iload_n 2, 1), (.invokestatic 124, 3), (.ifCond .eq 18, 3), (.iload_n 3, 1), (.invokestatic 111, 3), (.ifCond .eq 11, 3), (.iload 4, 2), (.invokestatic 124, 3), (.ifCond .ne 9, 3)]
  | 34 => [(.aload_n 0, 1), (.iconst 1, 1), (.invokevirtual 87, 3), (.ireturn, 1)]
  | 40 => [(.aload_n 0, 1), (.aload_n 0, 1), (.invokevirtual 127, 3), (.putfield 28, 3)]
  | 48 => [(.aload_n 0, 1), (.iconst 0, 1), (.putfield 98, 3), (.aload_n 0, 1), (.getfield 28, 3), (.ifCond .lt 9, 3), (.aload_n 0, 1), (.iconst 2, 1), (.invokevirtual 87, 3), (.ireturn, 1)]
  | 66 => [(.aload_n 0, 1), (.getfield 7, 3), (.sipush 163, 3), (.iload_n 1, 1), (.imul, 1), (.iconst 2, 1), (.iadd, 1), (.iaload, 1), (.istore 5, 2), (.iload 5, 2), (.bipush 10, 2), (.if_icmp .ne 9, 3), (.aload_n 0, 1), (.iconst 3, 1), (.invokevirtual 87, 3), (.ireturn, 1)]
  | 93 => [(.aload_n 0, 1), (.invokevirtual 95, 3)]
  | 97 => [(.aload_n 0, 1), (.getfield 7, 3), (.sipush 163, 3), (.iload_n 1, 1), (.imul, 1), (.iconst 2, 1), (.iadd, 1), (.dup2, 1), (.iaload, 1), (.iconst 1, 1), (.iadd, 1), (.iastore, 1), (.iload_n 1, 1), (.iload 5, 2), (.invokestatic 130, 3), (.istore 6, 2), (.aload_n 0, 1), (.getfield 7, 3), (.iload 6, 2), (.iload_n 2, 1), (.iastore, 1), (.aload_n 0, 1), (.getfield 7, 3), (.iload 6, 2), (.iconst 1, 1), (.iadd, 1), (.iload_n 3, 1), (.iastore, 1), (.aload_n 0, 1), (.getfield 7, 3), (.iload 6, 2), (.iconst 2, 1), (.iadd, 1), (.iload 4, 2), (.iastore, 1), (.aload_n 0, 1), (.getfield 7, 3), (.iload 6, 2), (.iconst 3, 1), (.iadd, 1), (.aload_n 0, 1), (.getfield 117, 3), (.iastore, 1), (.iconst 0, 1), (.istore 7, 2)]
  | 166 => [(.iload 7, 2), (.bipush 12, 2), (.if_icmp .ge 43, 3), (.aload_n 0, 1), (.getfield 7, 3), (.iload 6, 2), (.iconst 4, 1), (.iadd, 1), (.iload 7, 2), (.iadd, 1), (.iload 7, 2), (.iconst 3, 1), (.aload_n 0, 1), (.getfield 117, 3), (.imul, 1), (.if_icmp .ge 13, 3), (.aload_n 0, 1), (.getfield 32, 3), (.iload 7, 2), (.iaload, 1), (.goto 4, 3)]
  | 205 => [(.iconst 0, 1)]
  | 206 => [(.iastore, 1), (.iinc 7 1, 3), (.goto (-44), 3)]
  | 213 => [(.iload 5, 2), (.ireturn, 1)]
  | _ => []
def uX10_addTransition : Nat → Option (List Bool)
  | 48 => some [true, true, true, true, true, false, false, false]
  | 97 => some [true, true, true, true, true, true, false, false]
  | 166 => some [true, false, false, false, false, true, true, true]
  | _ => none
def aX10_addTransition : pvCa
  | 80 => some (1, true, 0, 0, C_X10_isSlot)
  | 87 => some (2, false, 9, 0, C_X10_fails)
  | 95 => some (1, false, 9, 0, C_X10_changes)
  | 111 => some (1, true, 0, 0, C_X10_isLetter)
  | 124 => some (1, true, 0, 0, C_X10_isState)
  | 127 => some (1, false, 9, 0, C_X10_faultOf)
  | 130 => some (2, true, 0, 0, C_X10_at)
  | _ => none
theorem bX10_addTransition_0 : bX10_addTransition 0 = [(.aload_n 0, 1), (.iconst 0, 1), (.putfield 73, 3), (.iload_n 1, 1), (.invokestatic 80, 3), (.ifCond .eq 25, 3), (.iload_n 2, 1), (.invokestatic 124, 3), (.ifCond .eq 18, 3), (.iload_n 3, 1), (.invokestatic 111, 3), (.ifCond .eq 11, 3), (.iload 4, 2), (.invokestatic 124, 3), (.ifCond .ne 9, 3)] := rfl
theorem uX10_addTransition_0 : uX10_addTransition 0 = none := rfl
theorem bX10_addTransition_34 : bX10_addTransition 34 = [(.aload_n 0, 1), (.iconst 1, 1), (.invokevirtual 87, 3), (.ireturn, 1)] := rfl
theorem uX10_addTransition_34 : uX10_addTransition 34 = none := rfl
theorem bX10_addTransition_40 : bX10_addTransition 40 = [(.aload_n 0, 1), (.aload_n 0, 1), (.invokevirtual 127, 3), (.putfield 28, 3)] := rfl
theorem uX10_addTransition_40 : uX10_addTransition 40 = none := rfl
theorem bX10_addTransition_48 : bX10_addTransition 48 = [(.aload_n 0, 1), (.iconst 0, 1), (.putfield 98, 3), (.aload_n 0, 1), (.getfield 28, 3), (.ifCond .lt 9, 3), (.aload_n 0, 1), (.iconst 2, 1), (.invokevirtual 87, 3), (.ireturn, 1)] := rfl
theorem uX10_addTransition_48 : uX10_addTransition 48 = some [true, true, true, true, true, false, false, false] := rfl
theorem bX10_addTransition_66 : bX10_addTransition 66 = [(.aload_n 0, 1), (.getfield 7, 3), (.sipush 163, 3), (.iload_n 1, 1), (.imul, 1), (.iconst 2, 1), (.iadd, 1), (.iaload, 1), (.istore 5, 2), (.iload 5, 2), (.bipush 10, 2), (.if_icmp .ne 9, 3), (.aload_n 0, 1), (.iconst 3, 1), (.invokevirtual 87, 3), (.ireturn, 1)] := rfl
theorem uX10_addTransition_66 : uX10_addTransition 66 = none := rfl
theorem bX10_addTransition_93 : bX10_addTransition 93 = [(.aload_n 0, 1), (.invokevirtual 95, 3)] := rfl
theorem uX10_addTransition_93 : uX10_addTransition 93 = none := rfl
theorem bX10_addTransition_97 : bX10_addTransition 97 = [(.aload_n 0, 1), (.getfield 7, 3), (.sipush 163, 3), (.iload_n 1, 1), (.imul, 1), (.iconst 2, 1), (.iadd, 1), (.dup2, 1), (.iaload, 1), (.iconst 1, 1), (.iadd, 1), (.iastore, 1), (.iload_n 1, 1), (.iload 5, 2), (.invokestatic 130, 3), (.istore 6, 2), (.aload_n 0, 1), (.getfield 7, 3), (.iload 6, 2), (.iload_n 2, 1), (.iastore, 1), (.aload_n 0, 1), (.getfield 7, 3), (.iload 6, 2), (.iconst 1, 1), (.iadd, 1), (.iload_n 3, 1), (.iastore, 1), (.aload_n 0, 1), (.getfield 7, 3), (.iload 6, 2), (.iconst 2, 1), (.iadd, 1), (.iload 4, 2), (.iastore, 1), (.aload_n 0, 1), (.getfield 7, 3), (.iload 6, 2), (.iconst 3, 1), (.iadd, 1), (.aload_n 0, 1), (.getfield 117, 3), (.iastore, 1), (.iconst 0, 1), (.istore 7, 2)] := rfl
theorem uX10_addTransition_97 : uX10_addTransition 97 = some [true, true, true, true, true, true, false, false] := rfl
theorem bX10_addTransition_166 : bX10_addTransition 166 = [(.iload 7, 2), (.bipush 12, 2), (.if_icmp .ge 43, 3), (.aload_n 0, 1), (.getfield 7, 3), (.iload 6, 2), (.iconst 4, 1), (.iadd, 1), (.iload 7, 2), (.iadd, 1), (.iload 7, 2), (.iconst 3, 1), (.aload_n 0, 1), (.getfield 117, 3), (.imul, 1), (.if_icmp .ge 13, 3), (.aload_n 0, 1), (.getfield 32, 3), (.iload 7, 2), (.iaload, 1), (.goto 4, 3)] := rfl
theorem uX10_addTransition_166 : uX10_addTransition 166 = some [true, false, false, false, false, true, true, true] := rfl
theorem bX10_addTransition_205 : bX10_addTransition 205 = [(.iconst 0, 1)] := rfl
theorem uX10_addTransition_205 : uX10_addTransition 205 = none := rfl
theorem bX10_addTransition_206 : bX10_addTransition 206 = [(.iastore, 1), (.iinc 7 1, 3), (.goto (-44), 3)] := rfl
theorem uX10_addTransition_206 : uX10_addTransition 206 = none := rfl
theorem bX10_addTransition_213 : bX10_addTransition 213 = [(.iload 5, 2), (.ireturn, 1)] := rfl
theorem uX10_addTransition_213 : uX10_addTransition 213 = none := rfl
theorem aX10_addTransition_80 : aX10_addTransition 80 = some (1, true, 0, 0, C_X10_isSlot) := rfl
theorem aX10_addTransition_87 : aX10_addTransition 87 = some (2, false, 9, 0, C_X10_fails) := rfl
theorem aX10_addTransition_95 : aX10_addTransition 95 = some (1, false, 9, 0, C_X10_changes) := rfl
theorem aX10_addTransition_111 : aX10_addTransition 111 = some (1, true, 0, 0, C_X10_isLetter) := rfl
theorem aX10_addTransition_124 : aX10_addTransition 124 = some (1, true, 0, 0, C_X10_isState) := rfl
theorem aX10_addTransition_127 : aX10_addTransition 127 = some (1, false, 9, 0, C_X10_faultOf) := rfl
theorem aX10_addTransition_130 : aX10_addTransition 130 = some (2, true, 0, 0, C_X10_at) := rfl
def mX10_addTransition : Room := { frames := 5, cells := 1, slots := 6, locals := 103 }
set_option maxRecDepth 100000 in
set_option maxHeartbeats 4000000 in
theorem okX10_addTransition : pvOkM fX10 aX10_addTransition kX10 eX10 (some .int) bX10_addTransition uX10_addTransition 8 C_X10_addTransition := by
  intro Q SW hc as z h hS hz
  unfold C_X10_addTransition at h
  split at h
  · rename_i id s q a r
    obtain ⟨rfl, ⟨hp, hn, hx, hw⟩, h1, h2⟩ := h
    refine ⟨Nat.le_of_ble_eq_true rfl, ?_⟩
    by_cases hv : (0 ≤ s ∧ s ≤ 1) ∧ (0 ≤ q ∧ q ≤ 3) ∧ (0 ≤ a ∧ a ≤ 2) ∧ 0 ≤ r ∧ r ≤ 3
    · have h3 := h2 hv
      clear h1 h2
      obtain ⟨f, cnt, G, er⟩ : ∃ f cnt G, rtF (z.1 45) (z.1 39 10) = (f, cnt, G) := ⟨_, _, _, rfl⟩
      have hg := rtF_w (z.1 45) (z.1 39 10)
      have hf0 := rtF_g (z.1 45) (z.1 39 10)
      have hf1 := rtF_r (t := z.1 45) (n := z.1 39 10) (by omega)
      rw [er] at hg hf0 hf1 h3
      simp only at hg hf0 hf1 h3
      obtain ⟨n, en⟩ : ∃ n : Nat, (autR (z.1 40) s).1 = n := ⟨(autR (z.1 40) s).1.toNat, by have := (hw s hv.1).1.1; omega⟩
      have hn10 := (hw s hv.1).1.2
      rw [en] at h3 hn10
      have gn : z.1 40 (163 * s + 2).toNat = n := by rw [rS_n (f := z.1 40) hv.1.1 rfl, en]
      have hcn := hg.1
      have loop : ∀ (m k : Nat) (z' : pvM), k + m = 12 → f < 0 → (n : Int) ≠ 10 → frF [39, 40, 42, 46] [] z z' → (∀ j, j ≠ 3 → j ≠ 8 → j ≠ 10 → j ≠ 11 → j ≠ 12 → j ≠ 14 → z'.1 39 j = z.1 39 j) → z'.1 39 10 = 0 → z'.1 39 12 = f → z'.1 39 8 = 0 → chgF z z' →
          z'.1 39 14 = cnt → (∀ j, j < 3 * cnt → z'.1 46 j = G j) → (∀ j : Nat, j ≠ 163 * s.toNat + 2 → ¬ (163 * s.toNat + 3 + 16 * n ≤ j ∧ j < 163 * s.toNat + 3 + 16 * n + 16) → z'.1 40 j = z.1 40 j) → z'.1 40 (163 * s.toNat + 2) = n + 1 →
          (z'.1 40 (163 * s.toNat + 3 + 16 * n + 0) = q ∧ z'.1 40 (163 * s.toNat + 3 + 16 * n + 1) = a ∧ z'.1 40 (163 * s.toNat + 3 + 16 * n + 2) = r ∧ z'.1 40 (163 * s.toNat + 3 + 16 * n + 3) = cnt) → (∀ j, j < k → j < 3 * cnt → z'.1 40 (163 * s.toNat + 3 + 16 * n + 4 + j) = G j) →
          SW 166 [some (vR 39), none, none, none, none, some (vI (n : Int)), some (vI (163 * s + 3 + 16 * (n : Int))), some (vI (k : Int))] z' := by
        intro m
        induction m using Nat.strongRecOn with
        | _ m ih =>
          intro k z' hk hf9 hn9 f1 k1 e10 e12 e8 c1 e14 o46 o1 o2 o3 o4
          have n1 : (163 * s + 3 + 16 * (n : Int) + 4 + (k : Int)).toNat = 163 * s.toNat + 3 + 16 * n + 4 + k := by omega
          refine hc 20 _ _ _ fun _ _ => ?_
          simp only [pvSt1]
          simp only [e14, n1, pvE_aload_n0, pvLA_s, pvLd, pvE_iconst, pvE_putfield, pvPf_0, pvPf_1, fX10_73, pvSh_0, pvSh_1, pvSh_2, pvSh_3, pvSh_4, pvSh_5, pvSh_6, pvSh_7, pvSh_8, pvSh_9, pvSh_10, pvSh_11, pvSh_12, pvSh_13, pvSh_14, pvSh_15, pvSh_16, pvSh_17, pvSh_18, pvSh_19, pvSh_20, pvSh_21, pvSh_22, pvSh_23, pvSh_24, pvSh_25, pvSh_26, pvSh_27, pvSh_28, pvSh_29, pvSh_30, pvSh_31, pvSh_32, pvSh_33, pvSh_34, pvSh_35, pvSh_36, pvSh_37, pvSh_38, pvSh_39, pvSh_40, pvSh_41, pvSh_42, pvSh_43, pvSh_44, pvSh_45, pvSh_46, pvSh_47, pvSh_48, pvSh_49, pvSh_50, pvSh_51, pvSh_52, pvSh_53, pvSh_54, pvSh_55, pvSh_56, pvSh_57, pvSh_58, pvSh_59, pvE_iload_n1, pvLI_s, pvE_invokestatic (h0 := eX10_80), pvC1_s, pvC2_s, pvAf_v, pvAf_x, pvPop, pvCs, pvCat, pvPush, aX10_addTransition_80, pvE_if_eq, pvE_iload_n2, pvE_invokestatic (h0 := eX10_124), aX10_addTransition_124, pvE_iload_n3, pvE_invokestatic (h0 := eX10_111), aX10_addTransition_111, pvE_iload, pvE_if_ne, pvE_invokevirtual, aX10_addTransition_87, pvE_ireturn, aX10_addTransition_127, fX10_28, fX10_98, pvE_getfield, pvGf_0, pvGf_1, pvGf_2, pvRf_0_0, pvRf_0_1, pvRf_0_2, pvRf_0_3, pvRf_0_4, pvRf_0_5, pvRf_0_6, pvRf_0_7, pvRf_0_8, pvRf_0_9, pvRf_0_10, pvRf_1_0, pvRf_3_0, pvRf_5_0, pvRf_5_1, pvRf_5_2, pvRf_9_0, pvRf_9_1, pvRf_9_2, pvRf_13_0, pvRf_13_1, pvRf_13_2, pvRf_17_0, pvRf_17_2, pvRf_20_0, pvRf_20_1, pvRf_20_2, pvRf_24_0, pvRf_24_1, pvRf_24_2, pvRf_28_0, pvRf_28_1, pvRf_28_2, pvRf_28_3, pvRf_33_0, pvRf_33_1, pvRf_36_0, pvRf_36_1, pvRf_39_0, pvRf_39_1, pvRf_39_2, pvRf_39_5, pvRf_39_6, pvRf_39_9, pvRf_39_13, pvRf_39_15, pvRf_39_16, pvRf_39_17, pvRf_39_19, pvRf_39_20, pvRf_39_22, pvRf_39_23, pvRf_39_24, pvRf_39_25, pvRf_39_29, pvRf_39_30, pvE_if_lt, fX10_7, pvE_sipush, pvE_imul, pvE_iadd, pvE_iaload, pvAI, pvE_istore, pvS1, List.length_cons, List.length_nil, pvClr_i, pvClr_r, pvClr_l, pvClr_d, pvClr_f, pvClr_n, pvE_bipush, pvE_icmp_ne, aX10_addTransition_95, pvE_dup2, pvE_iastore, pvE_invokestatic (h0 := eX10_130), aX10_addTransition_130, fX10_117, pvE_icmp_ge, fX10_32, pvE_goto, pvE_iinc, pvIc_s, bX10_addTransition_0, uX10_addTransition_0, bX10_addTransition_34, uX10_addTransition_34, bX10_addTransition_40, uX10_addTransition_40, bX10_addTransition_48, uX10_addTransition_48, bX10_addTransition_66, uX10_addTransition_66, bX10_addTransition_93, uX10_addTransition_93, bX10_addTransition_97, uX10_addTransition_97, bX10_addTransition_166, uX10_addTransition_166, bX10_addTransition_205, uX10_addTransition_205, bX10_addTransition_206, uX10_addTransition_206, bX10_addTransition_213, uX10_addTransition_213, pvMk_t, pvMk_f, pvMk_n, pvRecv_r, pvUp_nl, pvUp_same, pvUp_ap, pvSt_ap, pvX_c, pvX_ms, pvX_mn, pvE_nil, pvEn_i, pvEn_r, pvEn_l, pvEn_0, pvEn_s, pvRt, pvRv, pvTh, pvKc, pvGo, pvTgt, Int.toNat_natCast, false_and, and_false, true_and, and_true, if_true, if_false, reduceIte, reduceCtorEq, forall_const, false_or, or_false, true_or, or_true, ne_eq, not_true_eq_false, not_false_eq_true, implies_true, false_implies, Nat.reduceAdd, Nat.reduceSub, Nat.reduceMul, Nat.reduceEqDiff, Nat.reduceLT, Nat.reduceLeDiff, Int.reduceAdd, Int.reduceSub, Int.reduceMul, Int.reduceNeg, Int.reduceToNat, Int.reduceLE, Int.reduceLT, Int.reduceEq, Int.reduceNe, and_self]
          by_cases hx : 12 ≤ k
          · have q9 := (h3 z' k1 e10 e12).2.2 hf9 hn9 f1 e8 c1 (by
              have e : abA ((n : Int) + 1) (z.1 40 (163 * s.toNat)) (z.1 40 (163 * s.toNat + 1)) (rT (z'.1 40) s) = adA (abA n (z.1 40 (163 * s.toNat)) (z.1 40 (163 * s.toNat + 1)) (rT (z.1 40) s)) q a r cnt G :=
                adA_of n rfl hg.1.2 (fun t ht => (autR_w (hw s hv.1) (by rw [en]; exact ht)).2.2.2.1.2) (fun t c ht hc => o1 _ (by omega) (by omega)) o3 (fun k c hc hk => by
                  have := o4 (3 * k + c) (by have := hg.1.2; omega) (by omega)
                  unfold rT
                  rw [show 163 * s.toNat + 3 + 16 * n + (4 + 3 * k + c) = 163 * s.toNat + 3 + 16 * n + 4 + (3 * k + c) by omega]
                  exact this)
              have e1 : autR (z'.1 40) s = abA ((n : Int) + 1) (z.1 40 (163 * s.toNat)) (z.1 40 (163 * s.toNat + 1)) (rT (z'.1 40) s) := by
                unfold autR
                rw [o2, o1 _ (by omega) (by omega), o1 _ (by omega) (by omega)]
              have e2 : autR (z.1 40) s = abA n (z.1 40 (163 * s.toNat)) (z.1 40 (163 * s.toNat + 1)) (rT (z.1 40) s) := by
                rw [← en]
                rfl
              rw [e1, e, ← e2]) (fun s' hs' hne => autR_same hv.1 hs' hne (hw s' hs') (fun j hj => o1 j (by omega) (by omega)))
            (repeat' (first | with_reducible apply And.intro | intro _))
            all_goals first
              | omega
              | exact q9
          · have ihk := ih (m - 1) (by omega) (k + 1) (pvUp z'.1 40 (163 * s.toNat + 3 + 16 * n + 4 + k) (if (k : Int) < 3 * (cnt : Int) then z'.1 46 k else 0), z'.2) (by omega) hf9 hn9 (by (repeat' first | assumption | exact frF_0 | (refine frF_u ?_ (by decide)) | (refine frF_s ?_ (by decide)) | (refine frF_l ?_ (by decide)))) (fun j a1 a2 a3 a4 a5 a6 => by simp only [pvUp_ap, Nat.reduceEqDiff, false_and, if_false, reduceIte]; exact k1 j a1 a2 a3 a4 a5 a6) (by simp only [pvUp_ap, Nat.reduceEqDiff, false_and, if_false, reduceIte]; exact e10) (by simp only [pvUp_ap, Nat.reduceEqDiff, false_and, if_false, reduceIte]; exact e12) (by simp only [pvUp_ap, Nat.reduceEqDiff, false_and, if_false, reduceIte]; exact e8) (chgF_u c1) (by simp only [pvUp_ap, Nat.reduceEqDiff, false_and, if_false, reduceIte]; exact e14) (fun j hj => by simp only [pvUp_ap, Nat.reduceEqDiff, false_and, if_false, reduceIte]; exact o46 j hj)
              (fun j a1 a2 => by simp only [pvUp_ap, true_and]; rw [if_neg (by omega)]; exact o1 j a1 a2) (by simp only [pvUp_ap, true_and]; rw [if_neg (by omega)]; exact o2) (by simp only [pvUp_ap, true_and]; simp (disch := omega) only [if_neg]; exact o3)
              (fun j a1 a2 => by
                simp only [pvUp_ap, true_and]
                by_cases e : j = k
                · subst e
                  rw [if_pos rfl, if_pos (by omega)]
                  exact o46 j a2
                · rw [if_neg (by omega)]
                  exact o4 j (by omega) a2)
            by_cases e3 : (k : Int) < 3 * (cnt : Int)
            · rw [if_pos e3] at ihk
              (repeat' (first | with_reducible apply And.intro | intro _))
              all_goals first
                | omega
                | exact ihk
            · rw [if_neg e3] at ihk
              (repeat' (first | with_reducible apply And.intro | intro _))
              all_goals first
                | omega
                | exact ihk
      have p97 : ∀ z' : pvM, f < 0 → (n : Int) ≠ 10 → frF [39, 42, 46] [] z z' → (∀ j, j ≠ 3 → j ≠ 8 → j ≠ 10 → j ≠ 11 → j ≠ 12 → j ≠ 14 → z'.1 39 j = z.1 39 j) → z'.1 39 10 = 0 → z'.1 39 12 = f → z'.1 39 8 = 0 → chgF z z' →
          z'.1 39 14 = cnt → (∀ j, j < 3 * cnt → z'.1 46 j = G j) → SW 97 [some (vR 39), some (vI s), some (vI q), some (vI a), some (vI r), some (vI (n : Int)), none, none] z' := by
        intro z' hf9 hn9 f1 k1 e10 e12 e8 c1 e14 o46
        have g40 := f1.1 40 (by decide)
        have gn' : z'.1 40 (163 * s + 2).toNat = n := by rw [g40, gn]
        have gn2 : z'.1 40 (163 * s.toNat + 2) = n := by rw [← gn', show (163 * s + 2).toNat = 163 * s.toNat + 2 by omega]
        have n0 : (163 * s + 3 + 16 * (n : Int)).toNat = 163 * s.toNat + 3 + 16 * n := by omega
        have n1 : (163 * s + 3 + 16 * (n : Int) + 1).toNat = 163 * s.toNat + 3 + 16 * n + 1 := by omega
        have n2 : (163 * s + 3 + 16 * (n : Int) + 2).toNat = 163 * s.toNat + 3 + 16 * n + 2 := by omega
        have n3 : (163 * s + 3 + 16 * (n : Int) + 3).toNat = 163 * s.toNat + 3 + 16 * n + 3 := by omega
        have nn : (163 * s + 2).toNat = 163 * s.toNat + 2 := by omega
        have q9 := fun (w : Int) (hw : w = (cnt : Int)) => loop 12 0 (pvUp (pvUp (pvUp (pvUp (pvUp z'.1 40 (163 * s.toNat + 2) ((n : Int) + 1)) 40 (163 * s.toNat + 3 + 16 * n) q) 40 (163 * s.toNat + 3 + 16 * n + 1) a) 40 (163 * s.toNat + 3 + 16 * n + 2) r) 40 (163 * s.toNat + 3 + 16 * n + 3) w, z'.2) rfl hf9 hn9
          (by (repeat' refine frF_u ?_ (by decide)); exact frF_t frF_0 f1 (by decide) (by decide)) (fun j a1 a2 a3 a4 a5 a6 => by simp only [pvUp_ap, Nat.reduceEqDiff, false_and, if_false, reduceIte]; exact k1 j a1 a2 a3 a4 a5 a6) (by simp only [pvUp_ap, Nat.reduceEqDiff, false_and, if_false, reduceIte]; exact e10) (by simp only [pvUp_ap, Nat.reduceEqDiff, false_and, if_false, reduceIte]; exact e12) (by simp only [pvUp_ap, Nat.reduceEqDiff, false_and, if_false, reduceIte]; exact e8)
          (chgF_u (z1 := (_, _)) (chgF_u (z1 := (_, _)) (chgF_u (z1 := (_, _)) (chgF_u (z1 := (_, _)) (chgF_u c1))))) (by simp only [pvUp_ap, Nat.reduceEqDiff, false_and, if_false, reduceIte]; exact e14) (fun j hj => by simp only [pvUp_ap, Nat.reduceEqDiff, false_and, if_false, reduceIte]; exact o46 j hj)
          (fun j a1 a2 => by simp only [pvUp_ap, true_and]; simp (disch := omega) only [if_neg]; rw [g40]) (by simp only [pvUp_ap, true_and]; simp (disch := omega) only [if_neg, if_pos, if_true]) (by simp only [pvUp_ap, true_and]; simp (disch := omega) only [if_neg, if_pos, if_true]; exact ⟨trivial, trivial, trivial, hw⟩) (fun j hj => absurd hj (Nat.not_lt_zero j))
        refine hc 20 _ _ _ fun _ _ => ?_
        clear hc hS hz loop
        simp only [pvSt1]
        simp only [C_X10_at, gn', gn2, n0, n1, n2, n3, nn, pvE_aload_n0, pvLA_s, pvLd, pvE_iconst, pvE_putfield, pvPf_0, pvPf_1, fX10_73, pvSh_0, pvSh_1, pvSh_2, pvSh_3, pvSh_4, pvSh_5, pvSh_6, pvSh_7, pvSh_8, pvSh_9, pvSh_10, pvSh_11, pvSh_12, pvSh_13, pvSh_14, pvSh_15, pvSh_16, pvSh_17, pvSh_18, pvSh_19, pvSh_20, pvSh_21, pvSh_22, pvSh_23, pvSh_24, pvSh_25, pvSh_26, pvSh_27, pvSh_28, pvSh_29, pvSh_30, pvSh_31, pvSh_32, pvSh_33, pvSh_34, pvSh_35, pvSh_36, pvSh_37, pvSh_38, pvSh_39, pvSh_40, pvSh_41, pvSh_42, pvSh_43, pvSh_44, pvSh_45, pvSh_46, pvSh_47, pvSh_48, pvSh_49, pvSh_50, pvSh_51, pvSh_52, pvSh_53, pvSh_54, pvSh_55, pvSh_56, pvSh_57, pvSh_58, pvSh_59, pvE_iload_n1, pvLI_s, pvE_invokestatic (h0 := eX10_80), pvC1_s, pvC2_s, pvAf_v, pvAf_x, pvPop, pvCs, pvCat, pvPush, aX10_addTransition_80, pvE_if_eq, pvE_iload_n2, pvE_invokestatic (h0 := eX10_124), aX10_addTransition_124, pvE_iload_n3, pvE_invokestatic (h0 := eX10_111), aX10_addTransition_111, pvE_iload, pvE_if_ne, pvE_invokevirtual, aX10_addTransition_87, pvE_ireturn, aX10_addTransition_127, fX10_28, fX10_98, pvE_getfield, pvGf_0, pvGf_1, pvGf_2, pvRf_0_0, pvRf_0_1, pvRf_0_2, pvRf_0_3, pvRf_0_4, pvRf_0_5, pvRf_0_6, pvRf_0_7, pvRf_0_8, pvRf_0_9, pvRf_0_10, pvRf_1_0, pvRf_3_0, pvRf_5_0, pvRf_5_1, pvRf_5_2, pvRf_9_0, pvRf_9_1, pvRf_9_2, pvRf_13_0, pvRf_13_1, pvRf_13_2, pvRf_17_0, pvRf_17_2, pvRf_20_0, pvRf_20_1, pvRf_20_2, pvRf_24_0, pvRf_24_1, pvRf_24_2, pvRf_28_0, pvRf_28_1, pvRf_28_2, pvRf_28_3, pvRf_33_0, pvRf_33_1, pvRf_36_0, pvRf_36_1, pvRf_39_0, pvRf_39_1, pvRf_39_2, pvRf_39_5, pvRf_39_6, pvRf_39_9, pvRf_39_13, pvRf_39_15, pvRf_39_16, pvRf_39_17, pvRf_39_19, pvRf_39_20, pvRf_39_22, pvRf_39_23, pvRf_39_24, pvRf_39_25, pvRf_39_29, pvRf_39_30, pvE_if_lt, fX10_7, pvE_sipush, pvE_imul, pvE_iadd, pvE_iaload, pvAI, pvE_istore, pvS1, List.length_cons, List.length_nil, pvClr_i, pvClr_r, pvClr_l, pvClr_d, pvClr_f, pvClr_n, pvE_bipush, pvE_icmp_ne, aX10_addTransition_95, pvE_dup2, pvE_iastore, pvE_invokestatic (h0 := eX10_130), aX10_addTransition_130, fX10_117, pvE_icmp_ge, fX10_32, pvE_goto, pvE_iinc, pvIc_s, bX10_addTransition_0, uX10_addTransition_0, bX10_addTransition_34, uX10_addTransition_34, bX10_addTransition_40, uX10_addTransition_40, bX10_addTransition_48, uX10_addTransition_48, bX10_addTransition_66, uX10_addTransition_66, bX10_addTransition_93, uX10_addTransition_93, bX10_addTransition_97, uX10_addTransition_97, bX10_addTransition_166, uX10_addTransition_166, bX10_addTransition_205, uX10_addTransition_205, bX10_addTransition_206, uX10_addTransition_206, bX10_addTransition_213, uX10_addTransition_213, pvMk_t, pvMk_f, pvMk_n, pvRecv_r, pvUp_nl, pvUp_same, pvUp_ap, pvSt_ap, pvX_c, pvX_ms, pvX_mn, pvE_nil, pvEn_i, pvEn_r, pvEn_l, pvEn_0, pvEn_s, pvRt, pvRv, pvTh, pvKc, pvGo, pvTgt, Int.toNat_natCast, false_and, and_false, true_and, and_true, if_true, if_false, reduceIte, reduceCtorEq, forall_const, false_or, or_false, true_or, or_true, ne_eq, not_true_eq_false, not_false_eq_true, implies_true, false_implies, Nat.reduceAdd, Nat.reduceSub, Nat.reduceMul, Nat.reduceEqDiff, Nat.reduceLT, Nat.reduceLeDiff, Int.reduceAdd, Int.reduceSub, Int.reduceMul, Int.reduceNeg, Int.reduceToNat, Int.reduceLE, Int.reduceLT, Int.reduceEq, Int.reduceNe, and_self]
        (repeat' (first | with_reducible apply And.intro | intro _))
        all_goals first
          | omega
          | exact q9 _ e14
      have p48 : ∀ z' : pvM, frF [39, 46] [] z z' → (∀ j, j ≠ 8 → j ≠ 11 → j ≠ 12 → j ≠ 14 → z'.1 39 j = z.1 39 j) → z'.1 39 12 = f → z'.1 39 8 = 0 →
          z'.1 39 14 = cnt → (∀ j, j < 3 * cnt → z'.1 46 j = G j) → SW 48 [some (vR 39), some (vI s), some (vI q), some (vI a), some (vI r), none, none, none] z' := by
        intro z' f1 k1 e12 e8 e14 o46
        have g40 := f1.1 40 (by decide)
        have gn' : z'.1 40 (163 * s + 2).toNat = n := by rw [g40, gn]
        have e3 := k1 3 (by decide) (by decide) (by decide) (by decide)
        refine hc 20 _ _ _ fun _ _ => ?_
        clear hc hS hz loop
        simp only [pvSt1]
        simp only [C_X10_fails, C_X10_changes, gn', e12, e3, pvE_aload_n0, pvLA_s, pvLd, pvE_iconst, pvE_putfield, pvPf_0, pvPf_1, fX10_73, pvSh_0, pvSh_1, pvSh_2, pvSh_3, pvSh_4, pvSh_5, pvSh_6, pvSh_7, pvSh_8, pvSh_9, pvSh_10, pvSh_11, pvSh_12, pvSh_13, pvSh_14, pvSh_15, pvSh_16, pvSh_17, pvSh_18, pvSh_19, pvSh_20, pvSh_21, pvSh_22, pvSh_23, pvSh_24, pvSh_25, pvSh_26, pvSh_27, pvSh_28, pvSh_29, pvSh_30, pvSh_31, pvSh_32, pvSh_33, pvSh_34, pvSh_35, pvSh_36, pvSh_37, pvSh_38, pvSh_39, pvSh_40, pvSh_41, pvSh_42, pvSh_43, pvSh_44, pvSh_45, pvSh_46, pvSh_47, pvSh_48, pvSh_49, pvSh_50, pvSh_51, pvSh_52, pvSh_53, pvSh_54, pvSh_55, pvSh_56, pvSh_57, pvSh_58, pvSh_59, pvE_iload_n1, pvLI_s, pvE_invokestatic (h0 := eX10_80), pvC1_s, pvC2_s, pvAf_v, pvAf_x, pvPop, pvCs, pvCat, pvPush, aX10_addTransition_80, pvE_if_eq, pvE_iload_n2, pvE_invokestatic (h0 := eX10_124), aX10_addTransition_124, pvE_iload_n3, pvE_invokestatic (h0 := eX10_111), aX10_addTransition_111, pvE_iload, pvE_if_ne, pvE_invokevirtual, aX10_addTransition_87, pvE_ireturn, aX10_addTransition_127, fX10_28, fX10_98, pvE_getfield, pvGf_0, pvGf_1, pvGf_2, pvRf_0_0, pvRf_0_1, pvRf_0_2, pvRf_0_3, pvRf_0_4, pvRf_0_5, pvRf_0_6, pvRf_0_7, pvRf_0_8, pvRf_0_9, pvRf_0_10, pvRf_1_0, pvRf_3_0, pvRf_5_0, pvRf_5_1, pvRf_5_2, pvRf_9_0, pvRf_9_1, pvRf_9_2, pvRf_13_0, pvRf_13_1, pvRf_13_2, pvRf_17_0, pvRf_17_2, pvRf_20_0, pvRf_20_1, pvRf_20_2, pvRf_24_0, pvRf_24_1, pvRf_24_2, pvRf_28_0, pvRf_28_1, pvRf_28_2, pvRf_28_3, pvRf_33_0, pvRf_33_1, pvRf_36_0, pvRf_36_1, pvRf_39_0, pvRf_39_1, pvRf_39_2, pvRf_39_5, pvRf_39_6, pvRf_39_9, pvRf_39_13, pvRf_39_15, pvRf_39_16, pvRf_39_17, pvRf_39_19, pvRf_39_20, pvRf_39_22, pvRf_39_23, pvRf_39_24, pvRf_39_25, pvRf_39_29, pvRf_39_30, pvE_if_lt, fX10_7, pvE_sipush, pvE_imul, pvE_iadd, pvE_iaload, pvAI, pvE_istore, pvS1, List.length_cons, List.length_nil, pvClr_i, pvClr_r, pvClr_l, pvClr_d, pvClr_f, pvClr_n, pvE_bipush, pvE_icmp_ne, aX10_addTransition_95, pvE_dup2, pvE_iastore, pvE_invokestatic (h0 := eX10_130), aX10_addTransition_130, fX10_117, pvE_icmp_ge, fX10_32, pvE_goto, pvE_iinc, pvIc_s, bX10_addTransition_0, uX10_addTransition_0, bX10_addTransition_34, uX10_addTransition_34, bX10_addTransition_40, uX10_addTransition_40, bX10_addTransition_48, uX10_addTransition_48, bX10_addTransition_66, uX10_addTransition_66, bX10_addTransition_93, uX10_addTransition_93, bX10_addTransition_97, uX10_addTransition_97, bX10_addTransition_166, uX10_addTransition_166, bX10_addTransition_205, uX10_addTransition_205, bX10_addTransition_206, uX10_addTransition_206, bX10_addTransition_213, uX10_addTransition_213, pvMk_t, pvMk_f, pvMk_n, pvRecv_r, pvUp_nl, pvUp_same, pvUp_ap, pvSt_ap, pvX_c, pvX_ms, pvX_mn, pvE_nil, pvEn_i, pvEn_r, pvEn_l, pvEn_0, pvEn_s, pvRt, pvRv, pvTh, pvKc, pvGo, pvTgt, Int.toNat_natCast, false_and, and_false, true_and, and_true, if_true, if_false, reduceIte, reduceCtorEq, forall_const, false_or, or_false, true_or, or_true, ne_eq, not_true_eq_false, not_false_eq_true, implies_true, false_implies, Nat.reduceAdd, Nat.reduceSub, Nat.reduceMul, Nat.reduceEqDiff, Nat.reduceLT, Nat.reduceLeDiff, Int.reduceAdd, Int.reduceSub, Int.reduceMul, Int.reduceNeg, Int.reduceToNat, Int.reduceLE, Int.reduceLT, Int.reduceEq, Int.reduceNe, and_self]
        (repeat' (first | with_reducible apply And.intro | intro _))
        all_goals first
          | omega
          | (refine (h3 _ (fun j a1 a2 a3 a4 a5 a6 => ?_) ?_ ?_).1 (by omega) (by (repeat' first | assumption | exact frF_0 | (refine frF_u ?_ (by decide)) | (refine frF_s ?_ (by decide)) | (refine frF_l ?_ (by decide)))) ?_ ?_ <;> simp (disch := omega) only [pvUp_ap, true_and, Nat.reduceEqDiff, if_neg, if_pos] <;> first | rfl | exact k1 j a2 a4 a5 a6 | assumption)
          | (refine (h3 _ (fun j a1 a2 a3 a4 a5 a6 => ?_) ?_ ?_).2.1 (by omega) (by omega) (by (repeat' first | assumption | exact frF_0 | (refine frF_u ?_ (by decide)) | (refine frF_s ?_ (by decide)) | (refine frF_l ?_ (by decide)))) ?_ ?_ <;> simp (disch := omega) only [pvUp_ap, true_and, Nat.reduceEqDiff, if_neg, if_pos] <;> first | rfl | exact k1 j a2 a4 a5 a6 | assumption)
          | skip
        all_goals
          rename_i z1 f2 k2 c2
          have d : ∀ j, j ≠ 3 → z1.1 39 j = if j = 10 then 0 else z'.1 39 j := fun j hj => by rw [k2 j hj]
          refine p97 z1 (by omega) (by omega) (frF_t (frF_u (frF_t frF_0 f1 (by decide) (by decide)) (by decide)) f2 (by decide) (by decide)) (fun j a1 a2 a3 a4 a5 a6 => by rw [d j a1, if_neg a3]; exact k1 j a2 a4 a5 a6) (by rw [d 10 (by decide)]; rfl) (by rw [d 12 (by decide)]; exact e12) (by rw [d 8 (by decide)]; exact e8) ?_ (by rw [d 14 (by decide)]; exact e14) (fun j hj => by rw [f2.1 46 (by decide)]; exact o46 j hj)
          refine chgF_b c2 ?_ ?_ ?_
          · show pvUp z'.1 39 10 0 39 3 = _
            rw [pvUp_ap, if_neg (by simp)]
            exact e3
          · show pvUp z'.1 39 10 0 42 = _
            rw [pvUp_ne (by decide)]
            exact f1.1 42 (by decide)
          · show pvUp z'.1 39 10 0 40 = _
            rw [pvUp_ne (by decide)]
            exact g40
      refine hc 20 _ _ _ fun _ _ => ?_
      clear hc hS hz
      simp only [pvSt1]
      simp only [C_X10_isSlot, C_X10_isState, C_X10_isLetter, C_X10_fails, C_X10_faultOf, er, pvE_aload_n0, pvLA_s, pvLd, pvE_iconst, pvE_putfield, pvPf_0, pvPf_1, fX10_73, pvSh_0, pvSh_1, pvSh_2, pvSh_3, pvSh_4, pvSh_5, pvSh_6, pvSh_7, pvSh_8, pvSh_9, pvSh_10, pvSh_11, pvSh_12, pvSh_13, pvSh_14, pvSh_15, pvSh_16, pvSh_17, pvSh_18, pvSh_19, pvSh_20, pvSh_21, pvSh_22, pvSh_23, pvSh_24, pvSh_25, pvSh_26, pvSh_27, pvSh_28, pvSh_29, pvSh_30, pvSh_31, pvSh_32, pvSh_33, pvSh_34, pvSh_35, pvSh_36, pvSh_37, pvSh_38, pvSh_39, pvSh_40, pvSh_41, pvSh_42, pvSh_43, pvSh_44, pvSh_45, pvSh_46, pvSh_47, pvSh_48, pvSh_49, pvSh_50, pvSh_51, pvSh_52, pvSh_53, pvSh_54, pvSh_55, pvSh_56, pvSh_57, pvSh_58, pvSh_59, pvE_iload_n1, pvLI_s, pvE_invokestatic (h0 := eX10_80), pvC1_s, pvC2_s, pvAf_v, pvAf_x, pvPop, pvCs, pvCat, pvPush, aX10_addTransition_80, pvE_if_eq, pvE_iload_n2, pvE_invokestatic (h0 := eX10_124), aX10_addTransition_124, pvE_iload_n3, pvE_invokestatic (h0 := eX10_111), aX10_addTransition_111, pvE_iload, pvE_if_ne, pvE_invokevirtual, aX10_addTransition_87, pvE_ireturn, aX10_addTransition_127, fX10_28, fX10_98, pvE_getfield, pvGf_0, pvGf_1, pvGf_2, pvRf_0_0, pvRf_0_1, pvRf_0_2, pvRf_0_3, pvRf_0_4, pvRf_0_5, pvRf_0_6, pvRf_0_7, pvRf_0_8, pvRf_0_9, pvRf_0_10, pvRf_1_0, pvRf_3_0, pvRf_5_0, pvRf_5_1, pvRf_5_2, pvRf_9_0, pvRf_9_1, pvRf_9_2, pvRf_13_0, pvRf_13_1, pvRf_13_2, pvRf_17_0, pvRf_17_2, pvRf_20_0, pvRf_20_1, pvRf_20_2, pvRf_24_0, pvRf_24_1, pvRf_24_2, pvRf_28_0, pvRf_28_1, pvRf_28_2, pvRf_28_3, pvRf_33_0, pvRf_33_1, pvRf_36_0, pvRf_36_1, pvRf_39_0, pvRf_39_1, pvRf_39_2, pvRf_39_5, pvRf_39_6, pvRf_39_9, pvRf_39_13, pvRf_39_15, pvRf_39_16, pvRf_39_17, pvRf_39_19, pvRf_39_20, pvRf_39_22, pvRf_39_23, pvRf_39_24, pvRf_39_25, pvRf_39_29, pvRf_39_30, pvE_if_lt, fX10_7, pvE_sipush, pvE_imul, pvE_iadd, pvE_iaload, pvAI, pvE_istore, pvS1, List.length_cons, List.length_nil, pvClr_i, pvClr_r, pvClr_l, pvClr_d, pvClr_f, pvClr_n, pvE_bipush, pvE_icmp_ne, aX10_addTransition_95, pvE_dup2, pvE_iastore, pvE_invokestatic (h0 := eX10_130), aX10_addTransition_130, fX10_117, pvE_icmp_ge, fX10_32, pvE_goto, pvE_iinc, pvIc_s, bX10_addTransition_0, uX10_addTransition_0, bX10_addTransition_34, uX10_addTransition_34, bX10_addTransition_40, uX10_addTransition_40, bX10_addTransition_48, uX10_addTransition_48, bX10_addTransition_66, uX10_addTransition_66, bX10_addTransition_93, uX10_addTransition_93, bX10_addTransition_97, uX10_addTransition_97, bX10_addTransition_166, uX10_addTransition_166, bX10_addTransition_205, uX10_addTransition_205, bX10_addTransition_206, uX10_addTransition_206, bX10_addTransition_213, uX10_addTransition_213, pvMk_t, pvMk_f, pvMk_n, pvRecv_r, pvUp_nl, pvUp_same, pvUp_ap, pvSt_ap, pvX_c, pvX_ms, pvX_mn, pvE_nil, pvEn_i, pvEn_r, pvEn_l, pvEn_0, pvEn_s, pvRt, pvRv, pvTh, pvKc, pvGo, pvTgt, Int.toNat_natCast, false_and, and_false, true_and, and_true, if_true, if_false, reduceIte, reduceCtorEq, forall_const, false_or, or_false, true_or, or_true, ne_eq, not_true_eq_false, not_false_eq_true, implies_true, false_implies, Nat.reduceAdd, Nat.reduceSub, Nat.reduceMul, Nat.reduceEqDiff, Nat.reduceLT, Nat.reduceLeDiff, Int.reduceAdd, Int.reduceSub, Int.reduceMul, Int.reduceNeg, Int.reduceToNat, Int.reduceLE, Int.reduceLT, Int.reduceEq, Int.reduceNe, and_self]
      (repeat' (first | with_reducible apply And.intro | intro _))
      all_goals first
        | omega
        | exact (hx _ (by assumption)).1
        | exact (hx _ (by assumption)).2
        | skip
      all_goals
        rename_i z1 f1 k1 e14 o46
        have d : ∀ j, j ≠ 11 → j ≠ 14 → z1.1 39 j = if j = 8 then 0 else z.1 39 j := fun j h1 h2 => by rw [k1 j h1 h2]
        refine p48 (pvUp z1.1 39 12 f, z1.2) (frF_u (frF_t (frF_u frF_0 (by decide)) f1 (by decide) (by decide)) (by decide)) (fun j a1 a2 a3 a4 => ?_) ?_ ?_ ?_ (fun j hj => ?_)
        · show pvUp z1.1 39 12 f 39 j = _
          rw [pvUp_ap, if_neg (by simp [a3]), d j a2 a4, if_neg a1]
        · show pvUp z1.1 39 12 f 39 12 = _
          simp [pvUp_ap]
        · show pvUp z1.1 39 12 f 39 8 = _
          rw [pvUp_ap, if_neg (by simp), d 8 (by decide) (by decide)]
          rfl
        · show pvUp z1.1 39 12 f 39 14 = _
          rw [pvUp_ap, if_neg (by simp)]
          exact e14
        · show pvUp z1.1 39 12 f 46 j = _
          rw [pvUp_ap, if_neg (by simp)]
          exact o46 j hj
    · have h3 := h1 hv
      refine hc 20 _ _ _ fun _ _ => ?_
      clear hc hS hz
      simp only [pvSt1]
      simp only [C_X10_isSlot, C_X10_isState, C_X10_isLetter, C_X10_fails, pvE_aload_n0, pvLA_s, pvLd, pvE_iconst, pvE_putfield, pvPf_0, pvPf_1, fX10_73, pvSh_0, pvSh_1, pvSh_2, pvSh_3, pvSh_4, pvSh_5, pvSh_6, pvSh_7, pvSh_8, pvSh_9, pvSh_10, pvSh_11, pvSh_12, pvSh_13, pvSh_14, pvSh_15, pvSh_16, pvSh_17, pvSh_18, pvSh_19, pvSh_20, pvSh_21, pvSh_22, pvSh_23, pvSh_24, pvSh_25, pvSh_26, pvSh_27, pvSh_28, pvSh_29, pvSh_30, pvSh_31, pvSh_32, pvSh_33, pvSh_34, pvSh_35, pvSh_36, pvSh_37, pvSh_38, pvSh_39, pvSh_40, pvSh_41, pvSh_42, pvSh_43, pvSh_44, pvSh_45, pvSh_46, pvSh_47, pvSh_48, pvSh_49, pvSh_50, pvSh_51, pvSh_52, pvSh_53, pvSh_54, pvSh_55, pvSh_56, pvSh_57, pvSh_58, pvSh_59, pvE_iload_n1, pvLI_s, pvE_invokestatic (h0 := eX10_80), pvC1_s, pvC2_s, pvAf_v, pvAf_x, pvPop, pvCs, pvCat, pvPush, aX10_addTransition_80, pvE_if_eq, pvE_iload_n2, pvE_invokestatic (h0 := eX10_124), aX10_addTransition_124, pvE_iload_n3, pvE_invokestatic (h0 := eX10_111), aX10_addTransition_111, pvE_iload, pvE_if_ne, pvE_invokevirtual, aX10_addTransition_87, pvE_ireturn, aX10_addTransition_127, fX10_28, fX10_98, pvE_getfield, pvGf_0, pvGf_1, pvGf_2, pvRf_0_0, pvRf_0_1, pvRf_0_2, pvRf_0_3, pvRf_0_4, pvRf_0_5, pvRf_0_6, pvRf_0_7, pvRf_0_8, pvRf_0_9, pvRf_0_10, pvRf_1_0, pvRf_3_0, pvRf_5_0, pvRf_5_1, pvRf_5_2, pvRf_9_0, pvRf_9_1, pvRf_9_2, pvRf_13_0, pvRf_13_1, pvRf_13_2, pvRf_17_0, pvRf_17_2, pvRf_20_0, pvRf_20_1, pvRf_20_2, pvRf_24_0, pvRf_24_1, pvRf_24_2, pvRf_28_0, pvRf_28_1, pvRf_28_2, pvRf_28_3, pvRf_33_0, pvRf_33_1, pvRf_36_0, pvRf_36_1, pvRf_39_0, pvRf_39_1, pvRf_39_2, pvRf_39_5, pvRf_39_6, pvRf_39_9, pvRf_39_13, pvRf_39_15, pvRf_39_16, pvRf_39_17, pvRf_39_19, pvRf_39_20, pvRf_39_22, pvRf_39_23, pvRf_39_24, pvRf_39_25, pvRf_39_29, pvRf_39_30, pvE_if_lt, fX10_7, pvE_sipush, pvE_imul, pvE_iadd, pvE_iaload, pvAI, pvE_istore, pvS1, List.length_cons, List.length_nil, pvClr_i, pvClr_r, pvClr_l, pvClr_d, pvClr_f, pvClr_n, pvE_bipush, pvE_icmp_ne, aX10_addTransition_95, pvE_dup2, pvE_iastore, pvE_invokestatic (h0 := eX10_130), aX10_addTransition_130, fX10_117, pvE_icmp_ge, fX10_32, pvE_goto, pvE_iinc, pvIc_s, bX10_addTransition_0, uX10_addTransition_0, bX10_addTransition_34, uX10_addTransition_34, bX10_addTransition_40, uX10_addTransition_40, bX10_addTransition_48, uX10_addTransition_48, bX10_addTransition_66, uX10_addTransition_66, bX10_addTransition_93, uX10_addTransition_93, bX10_addTransition_97, uX10_addTransition_97, bX10_addTransition_166, uX10_addTransition_166, bX10_addTransition_205, uX10_addTransition_205, bX10_addTransition_206, uX10_addTransition_206, bX10_addTransition_213, uX10_addTransition_213, pvMk_t, pvMk_f, pvMk_n, pvRecv_r, pvUp_nl, pvUp_same, pvUp_ap, pvSt_ap, pvX_c, pvX_ms, pvX_mn, pvE_nil, pvEn_i, pvEn_r, pvEn_l, pvEn_0, pvEn_s, pvRt, pvRv, pvTh, pvKc, pvGo, pvTgt, Int.toNat_natCast, false_and, and_false, true_and, and_true, if_true, if_false, reduceIte, reduceCtorEq, forall_const, false_or, or_false, true_or, or_true, ne_eq, not_true_eq_false, not_false_eq_true, implies_true, false_implies, Nat.reduceAdd, Nat.reduceSub, Nat.reduceMul, Nat.reduceEqDiff, Nat.reduceLT, Nat.reduceLeDiff, Int.reduceAdd, Int.reduceSub, Int.reduceMul, Int.reduceNeg, Int.reduceToNat, Int.reduceLE, Int.reduceLT, Int.reduceEq, Int.reduceNe, and_self]
      (repeat' (first | with_reducible apply And.intro | intro _))
      all_goals first
        | omega
        | assumption
  · exact h.elim
theorem rT_q {f : Nat → Int} {s : Int} {j : Nat} (h : 163 * s.toNat + 3 ≤ j) : f j = rT f s ((j - (163 * s.toNat + 3)) / 16) ((j - (163 * s.toNat + 3)) % 16) := by
  unfold rT
  congr 1
  omega
def C_X10_removeTransition : pvC
  | [.inr (.inr (.inl id)), .inl s, .inl t], z, Q => id = 39 ∧ ((0 ≤ z.1 39 3 ∧ z.1 39 3 ≤ 8) ∧ ∀ s' : Int, 0 ≤ s' ∧ s' ≤ 1 → WfA (autR (z.1 40) s')) ∧
      (¬ trF (autR (z.1 40)) s t → Q (.inl (some (vI 0))) (pvUp z.1 39 8 1, z.2)) ∧
      (trF (autR (z.1 40)) s t → ∀ z' : pvM, frF [39, 40, 42] [] z z' → (∀ j, j ≠ 3 → j ≠ 8 → z'.1 39 j = z.1 39 j) → z'.1 39 8 = 0 → chgF z z' → autR (z'.1 40) s = rmA (autR (z.1 40) s) t.toNat → (∀ s' : Int, 0 ≤ s' ∧ s' ≤ 1 → s' ≠ s → autR (z'.1 40) s' = autR (z.1 40) s') → Q (.inl (some (vI ((autR (z.1 40) s).1 - 1)))) z')
  | _, _, _ => False
def bX10_removeTransition : Nat → List (Instr × Nat)
  | 0 => [(.aload_n 0, 1), (.iconst 0, 1), (.putfield 73, 3), (.aload_n 0, 1), (.iload_n 1, 1), (.iload_n 2, 1), (.invokevirtual 134, 3), (.ifCond .ne 9, 3), (.aload_n 0, 1), (.iconst 1, 1), (.invokevirtual 87, 3), (.ireturn, 1)]
  | 20 => [(.aload_n 0, 1), (.invokevirtual 95, 3)]
  | 24 => [(.aload_n 0, 1), (.getfield 7, 3), (.sipush 163, 3), (.iload_n 1, 1), (.imul, 1), (.iconst 2, 1), (.iadd, 1), (.dup2, 1), (.iaload, 1), (.iconst 1, 1), (.isub, 1), (.iastore, 1), (.iload_n 1, 1), (.iload_n 2, 1), (.invokestatic 130, 3), (.istore_n 3, 1)]
  | 46 => [(.iload_n 3, 1), (.iload_n 1, 1), (.aload_n 0, 1), (.getfield 7, 3), (.sipush 163, 3), (.iload_n 1, 1), (.imul, 1), (.iconst 2, 1), (.iadd, 1), (.iaload, 1), (.invokestatic 130, 3), (.if_icmp .ge 24, 3), (.aload_n 0, 1), (.getfield 7, 3), (.iload_n 3, 1), (.aload_n 0, 1), (.getfield 7, 3), (.iload_n 3, 1), (.bipush 16, 2), (.iadd, 1), (.iaload, 1), (.iastore, 1), (.iinc 3 1, 3), (.goto (-38), 3)]
  | 87 => [(.aload_n 0, 1), (.getfield 7, 3), (.sipush 163, 3), (.iload_n 1, 1), (.imul, 1), (.iconst 2, 1), (.iadd, 1), (.iaload, 1), (.ireturn, 1)]
  | _ => []
def uX10_removeTransition : Nat → Option (List Bool)
  | 24 => some [true, true, true, false]
  | 46 => some [true, true, false, true]
  | _ => none
def aX10_removeTransition : pvCa
  | 87 => some (2, false, 9, 0, C_X10_fails)
  | 95 => some (1, false, 9, 0, C_X10_changes)
  | 130 => some (2, true, 0, 0, C_X10_at)
  | 134 => some (3, false, 9, 0, C_X10_isTransition)
  | _ => none
theorem bX10_removeTransition_0 : bX10_removeTransition 0 = [(.aload_n 0, 1), (.iconst 0, 1), (.putfield 73, 3), (.aload_n 0, 1), (.iload_n 1, 1), (.iload_n 2, 1), (.invokevirtual 134, 3), (.ifCond .ne 9, 3), (.aload_n 0, 1), (.iconst 1, 1), (.invokevirtual 87, 3), (.ireturn, 1)] := rfl
theorem uX10_removeTransition_0 : uX10_removeTransition 0 = none := rfl
theorem bX10_removeTransition_20 : bX10_removeTransition 20 = [(.aload_n 0, 1), (.invokevirtual 95, 3)] := rfl
theorem uX10_removeTransition_20 : uX10_removeTransition 20 = none := rfl
theorem bX10_removeTransition_24 : bX10_removeTransition 24 = [(.aload_n 0, 1), (.getfield 7, 3), (.sipush 163, 3), (.iload_n 1, 1), (.imul, 1), (.iconst 2, 1), (.iadd, 1), (.dup2, 1), (.iaload, 1), (.iconst 1, 1), (.isub, 1), (.iastore, 1), (.iload_n 1, 1), (.iload_n 2, 1), (.invokestatic 130, 3), (.istore_n 3, 1)] := rfl
theorem uX10_removeTransition_24 : uX10_removeTransition 24 = some [true, true, true, false] := rfl
theorem bX10_removeTransition_46 : bX10_removeTransition 46 = [(.iload_n 3, 1), (.iload_n 1, 1), (.aload_n 0, 1), (.getfield 7, 3), (.sipush 163, 3), (.iload_n 1, 1), (.imul, 1), (.iconst 2, 1), (.iadd, 1), (.iaload, 1), (.invokestatic 130, 3), (.if_icmp .ge 24, 3), (.aload_n 0, 1), (.getfield 7, 3), (.iload_n 3, 1), (.aload_n 0, 1), (.getfield 7, 3), (.iload_n 3, 1), (.bipush 16, 2), (.iadd, 1), (.iaload, 1), (.iastore, 1), (.iinc 3 1, 3), (.goto (-38), 3)] := rfl
theorem uX10_removeTransition_46 : uX10_removeTransition 46 = some [true, true, false, true] := rfl
theorem bX10_removeTransition_87 : bX10_removeTransition 87 = [(.aload_n 0, 1), (.getfield 7, 3), (.sipush 163, 3), (.iload_n 1, 1), (.imul, 1), (.iconst 2, 1), (.iadd, 1), (.iaload, 1), (.ireturn, 1)] := rfl
theorem uX10_removeTransition_87 : uX10_removeTransition 87 = none := rfl
theorem aX10_removeTransition_87 : aX10_removeTransition 87 = some (2, false, 9, 0, C_X10_fails) := rfl
theorem aX10_removeTransition_95 : aX10_removeTransition 95 = some (1, false, 9, 0, C_X10_changes) := rfl
theorem aX10_removeTransition_130 : aX10_removeTransition 130 = some (2, true, 0, 0, C_X10_at) := rfl
theorem aX10_removeTransition_134 : aX10_removeTransition 134 = some (3, false, 9, 0, C_X10_isTransition) := rfl
def mX10_removeTransition : Room := { frames := 3, cells := 1, slots := 6, locals := 64 }
set_option maxRecDepth 100000 in
set_option maxHeartbeats 4000000 in
theorem okX10_removeTransition : pvOkM fX10 aX10_removeTransition kX10 eX10 (some .int) bX10_removeTransition uX10_removeTransition 4 C_X10_removeTransition := by
  intro Q SW hc as z h hS hz
  unfold C_X10_removeTransition at h
  split at h
  · rename_i id s t
    obtain ⟨rfl, ⟨hp, hw⟩, h1, h2⟩ := h
    refine ⟨Nat.le_of_ble_eq_true rfl, ?_⟩
    by_cases hv : trF (autR (z.1 40)) s t
    · have h3 := h2 hv
      clear h1 h2
      obtain ⟨hs, ht⟩ := hv
      have hn10 := (hw s hs).1
      obtain ⟨n, en⟩ : ∃ n : Nat, (autR (z.1 40) s).1 = n := ⟨(autR (z.1 40) s).1.toNat, by omega⟩
      obtain ⟨t, rfl⟩ : ∃ k : Nat, t = k := ⟨t.toNat, by omega⟩
      rw [en] at h3 hn10 ht
      have gn : z.1 40 (163 * s + 2).toNat = n := by rw [rS_n (f := z.1 40) hs.1 rfl, en]
      have nn : (163 * s + 2).toNat = 163 * s.toNat + 2 := by omega
      have loop : ∀ (m k : Nat) (z' : pvM), k + m = 163 * s.toNat + 3 + 16 * (n - 1) → 163 * s.toNat + 3 + 16 * t ≤ k → frF [39, 40, 42] [] z z' → (∀ j, j ≠ 3 → j ≠ 8 → z'.1 39 j = z.1 39 j) → z'.1 39 8 = 0 → chgF z z' → z'.1 40 (163 * s.toNat + 2) = n - 1 →
          (∀ j : Nat, j ≠ 163 * s.toNat + 2 → z'.1 40 j = if 163 * s.toNat + 3 + 16 * t ≤ j ∧ j < k then z.1 40 (j + 16) else z.1 40 j) →
          SW 46 [some (vR 39), some (vI s), none, some (vI (k : Int))] z' := by
        intro m
        induction m using Nat.strongRecOn with
        | _ m ih =>
          intro k z' hk htk f1 k1 e8 c1 e2 o1
          have n16 : ((k : Int) + 16).toNat = k + 16 := by omega
          refine hc 20 _ _ _ fun _ _ => ?_
          simp only [pvSt1]
          simp only [C_X10_at, nn, e2, n16, pvE_aload_n0, pvLA_s, pvLd, pvE_iconst, pvE_putfield, pvPf_0, pvPf_1, fX10_73, pvSh_0, pvSh_1, pvSh_2, pvSh_3, pvSh_4, pvSh_5, pvSh_6, pvSh_7, pvSh_8, pvSh_9, pvSh_10, pvSh_11, pvSh_12, pvSh_13, pvSh_14, pvSh_15, pvSh_16, pvSh_17, pvSh_18, pvSh_19, pvSh_20, pvSh_21, pvSh_22, pvSh_23, pvSh_24, pvSh_25, pvSh_26, pvSh_27, pvSh_28, pvSh_29, pvSh_30, pvSh_31, pvSh_32, pvSh_33, pvSh_34, pvSh_35, pvSh_36, pvSh_37, pvSh_38, pvSh_39, pvSh_40, pvSh_41, pvSh_42, pvSh_43, pvSh_44, pvSh_45, pvSh_46, pvSh_47, pvSh_48, pvSh_49, pvSh_50, pvSh_51, pvSh_52, pvSh_53, pvSh_54, pvSh_55, pvSh_56, pvSh_57, pvSh_58, pvSh_59, pvE_iload_n1, pvLI_s, pvE_iload_n2, pvE_invokevirtual, pvC1_s, pvC2_s, pvAf_v, pvAf_x, pvPop, pvCs, pvCat, pvPush, aX10_removeTransition_134, pvE_if_ne, aX10_removeTransition_87, pvE_ireturn, aX10_removeTransition_95, pvE_getfield, pvGf_0, pvGf_1, pvGf_2, fX10_7, pvRf_0_0, pvRf_0_1, pvRf_0_2, pvRf_0_3, pvRf_0_4, pvRf_0_5, pvRf_0_6, pvRf_0_7, pvRf_0_8, pvRf_0_9, pvRf_0_10, pvRf_1_0, pvRf_3_0, pvRf_5_0, pvRf_5_1, pvRf_5_2, pvRf_9_0, pvRf_9_1, pvRf_9_2, pvRf_13_0, pvRf_13_1, pvRf_13_2, pvRf_17_0, pvRf_17_2, pvRf_20_0, pvRf_20_1, pvRf_20_2, pvRf_24_0, pvRf_24_1, pvRf_24_2, pvRf_28_0, pvRf_28_1, pvRf_28_2, pvRf_28_3, pvRf_33_0, pvRf_33_1, pvRf_36_0, pvRf_36_1, pvRf_39_0, pvRf_39_1, pvRf_39_2, pvRf_39_5, pvRf_39_6, pvRf_39_9, pvRf_39_13, pvRf_39_15, pvRf_39_16, pvRf_39_17, pvRf_39_19, pvRf_39_20, pvRf_39_22, pvRf_39_23, pvRf_39_24, pvRf_39_25, pvRf_39_29, pvRf_39_30, pvE_sipush, pvE_imul, pvE_iadd, pvE_dup2, pvE_iaload, pvAI, pvE_isub, pvE_iastore, pvE_invokestatic (h0 := eX10_130), aX10_removeTransition_130, pvE_istore_n3, pvS1, List.length_cons, List.length_nil, pvClr_i, pvClr_r, pvClr_l, pvClr_d, pvClr_f, pvClr_n, pvE_iload_n3, pvE_icmp_ge, pvE_bipush, pvE_iinc, pvIc_s, pvE_goto, bX10_removeTransition_0, uX10_removeTransition_0, bX10_removeTransition_20, uX10_removeTransition_20, bX10_removeTransition_24, uX10_removeTransition_24, bX10_removeTransition_46, uX10_removeTransition_46, bX10_removeTransition_87, uX10_removeTransition_87, pvMk_t, pvMk_f, pvMk_n, pvRecv_r, pvUp_nl, pvUp_same, pvUp_ap, pvSt_ap, pvX_c, pvX_ms, pvX_mn, pvE_nil, pvEn_i, pvEn_r, pvEn_l, pvEn_0, pvEn_s, pvRt, pvRv, pvTh, pvKc, pvGo, pvTgt, Int.toNat_natCast, false_and, and_false, true_and, and_true, if_true, if_false, reduceIte, reduceCtorEq, forall_const, false_or, or_false, true_or, or_true, ne_eq, not_true_eq_false, not_false_eq_true, implies_true, false_implies, Nat.reduceAdd, Nat.reduceSub, Nat.reduceMul, Nat.reduceEqDiff, Nat.reduceLT, Nat.reduceLeDiff, Int.reduceAdd, Int.reduceSub, Int.reduceMul, Int.reduceNeg, Int.reduceToNat, Int.reduceLE, Int.reduceLT, Int.reduceEq, Int.reduceNe, and_self]
          by_cases hx : 163 * s.toNat + 3 + 16 * (n - 1) ≤ k
          · have q9 := h3 z' f1 k1 e8 c1 (by
              have e : abA ((n : Int) - 1) (z.1 40 (163 * s.toNat)) (z.1 40 (163 * s.toNat + 1)) (rT (z'.1 40) s) = rmA (abA n (z.1 40 (163 * s.toNat)) (z.1 40 (163 * s.toNat + 1)) (rT (z.1 40) s)) t :=
                rmA_of (fun t ht => (autR_w (hw s hs) (by rw [en]; exact ht)).2.2.2.1.2) (fun t' c ht hc => by
                  unfold rT
                  rw [o1 _ (by omega)]
                  by_cases e : t ≤ t'
                  · rw [if_pos (by omega), if_pos e, show 163 * s.toNat + 3 + 16 * t' + c + 16 = 163 * s.toNat + 3 + 16 * (t' + 1) + c by omega]
                  · rw [if_neg (by omega), if_neg e])
              have e1 : autR (z'.1 40) s = abA ((n : Int) - 1) (z.1 40 (163 * s.toNat)) (z.1 40 (163 * s.toNat + 1)) (rT (z'.1 40) s) := by
                unfold autR
                rw [e2, o1 _ (by omega), o1 _ (by omega), if_neg (by omega), if_neg (by omega)]
              have e3 : autR (z.1 40) s = abA n (z.1 40 (163 * s.toNat)) (z.1 40 (163 * s.toNat + 1)) (rT (z.1 40) s) := by
                rw [← en]
                rfl
              rw [e1, e, ← e3, Int.toNat_natCast]) (fun s' hs' hne => autR_same hs hs' hne (hw s' hs') (fun j hj => by rw [o1 j (by omega), if_neg (by omega)]))
            (repeat' (first | with_reducible apply And.intro | intro _))
            all_goals first
              | omega
              | exact q9
          · have ihk := ih (m - 1) (by omega) (k + 1) (pvUp z'.1 40 k (z'.1 40 (k + 16)), z'.2) (by omega) (by omega) (by (repeat' first | assumption | exact frF_0 | (refine frF_u ?_ (by decide)) | (refine frF_s ?_ (by decide)) | (refine frF_l ?_ (by decide)))) (fun j a1 a2 => by simp only [pvUp_ap, Nat.reduceEqDiff, false_and, if_false, reduceIte]; exact k1 j a1 a2) (by simp only [pvUp_ap, Nat.reduceEqDiff, false_and, if_false, reduceIte]; exact e8) (chgF_u c1) (by simp only [pvUp_ap, true_and]; rw [if_neg (by omega)]; exact e2)
              (fun j a1 => by
                simp only [pvUp_ap, true_and]
                by_cases e : j = k
                · subst e
                  rw [if_pos rfl, if_pos (by omega), o1 _ (by omega), if_neg (by omega)]
                · rw [if_neg e, o1 j a1]
                  by_cases e2 : 163 * s.toNat + 3 + 16 * t ≤ j ∧ j < k
                  · rw [if_pos e2, if_pos (by omega)]
                  · rw [if_neg e2, if_neg (by omega)])
            (repeat' (first | with_reducible apply And.intro | intro _))
            all_goals first
              | omega
              | exact ihk
      have p24 : ∀ z' : pvM, frF [39, 42] [] z z' → (∀ j, j ≠ 3 → j ≠ 8 → z'.1 39 j = z.1 39 j) → z'.1 39 8 = 0 → chgF z z' → SW 24 [some (vR 39), some (vI s), some (vI (t : Int)), none] z' := by
        intro z' f1 k1 e8 c1
        have g40 := f1.1 40 (by decide)
        have gn2 : z'.1 40 (163 * s.toNat + 2) = n := by rw [g40, ← gn, nn]
        have q9 := loop (16 * (n - 1 - t)) (163 * s.toNat + 3 + 16 * t) (pvUp z'.1 40 (163 * s.toNat + 2) ((n : Int) - 1), z'.2) (by omega) (Nat.le_refl _) (frF_u (frF_t frF_0 f1 (by decide) (by decide)) (by decide)) (fun j a1 a2 => by simp only [pvUp_ap, Nat.reduceEqDiff, false_and, if_false, reduceIte]; exact k1 j a1 a2) (by simp only [pvUp_ap, Nat.reduceEqDiff, false_and, if_false, reduceIte]; exact e8) (chgF_u c1) (by simp only [pvUp_ap, and_self, if_true, reduceIte]) (fun j a1 => by simp only [pvUp_ap, true_and]; rw [if_neg a1, if_neg (by omega), g40])
        rw [show (((163 * s.toNat + 3 + 16 * t : Nat)) : Int) = 163 * s + 3 + 16 * (t : Int) by omega] at q9
        refine hc 20 _ _ _ fun _ _ => ?_
        clear hc hS hz loop
        simp only [pvSt1]
        simp only [C_X10_at, nn, gn2, pvE_aload_n0, pvLA_s, pvLd, pvE_iconst, pvE_putfield, pvPf_0, pvPf_1, fX10_73, pvSh_0, pvSh_1, pvSh_2, pvSh_3, pvSh_4, pvSh_5, pvSh_6, pvSh_7, pvSh_8, pvSh_9, pvSh_10, pvSh_11, pvSh_12, pvSh_13, pvSh_14, pvSh_15, pvSh_16, pvSh_17, pvSh_18, pvSh_19, pvSh_20, pvSh_21, pvSh_22, pvSh_23, pvSh_24, pvSh_25, pvSh_26, pvSh_27, pvSh_28, pvSh_29, pvSh_30, pvSh_31, pvSh_32, pvSh_33, pvSh_34, pvSh_35, pvSh_36, pvSh_37, pvSh_38, pvSh_39, pvSh_40, pvSh_41, pvSh_42, pvSh_43, pvSh_44, pvSh_45, pvSh_46, pvSh_47, pvSh_48, pvSh_49, pvSh_50, pvSh_51, pvSh_52, pvSh_53, pvSh_54, pvSh_55, pvSh_56, pvSh_57, pvSh_58, pvSh_59, pvE_iload_n1, pvLI_s, pvE_iload_n2, pvE_invokevirtual, pvC1_s, pvC2_s, pvAf_v, pvAf_x, pvPop, pvCs, pvCat, pvPush, aX10_removeTransition_134, pvE_if_ne, aX10_removeTransition_87, pvE_ireturn, aX10_removeTransition_95, pvE_getfield, pvGf_0, pvGf_1, pvGf_2, fX10_7, pvRf_0_0, pvRf_0_1, pvRf_0_2, pvRf_0_3, pvRf_0_4, pvRf_0_5, pvRf_0_6, pvRf_0_7, pvRf_0_8, pvRf_0_9, pvRf_0_10, pvRf_1_0, pvRf_3_0, pvRf_5_0, pvRf_5_1, pvRf_5_2, pvRf_9_0, pvRf_9_1, pvRf_9_2, pvRf_13_0, pvRf_13_1, pvRf_13_2, pvRf_17_0, pvRf_17_2, pvRf_20_0, pvRf_20_1, pvRf_20_2, pvRf_24_0, pvRf_24_1, pvRf_24_2, pvRf_28_0, pvRf_28_1, pvRf_28_2, pvRf_28_3, pvRf_33_0, pvRf_33_1, pvRf_36_0, pvRf_36_1, pvRf_39_0, pvRf_39_1, pvRf_39_2, pvRf_39_5, pvRf_39_6, pvRf_39_9, pvRf_39_13, pvRf_39_15, pvRf_39_16, pvRf_39_17, pvRf_39_19, pvRf_39_20, pvRf_39_22, pvRf_39_23, pvRf_39_24, pvRf_39_25, pvRf_39_29, pvRf_39_30, pvE_sipush, pvE_imul, pvE_iadd, pvE_dup2, pvE_iaload, pvAI, pvE_isub, pvE_iastore, pvE_invokestatic (h0 := eX10_130), aX10_removeTransition_130, pvE_istore_n3, pvS1, List.length_cons, List.length_nil, pvClr_i, pvClr_r, pvClr_l, pvClr_d, pvClr_f, pvClr_n, pvE_iload_n3, pvE_icmp_ge, pvE_bipush, pvE_iinc, pvIc_s, pvE_goto, bX10_removeTransition_0, uX10_removeTransition_0, bX10_removeTransition_20, uX10_removeTransition_20, bX10_removeTransition_24, uX10_removeTransition_24, bX10_removeTransition_46, uX10_removeTransition_46, bX10_removeTransition_87, uX10_removeTransition_87, pvMk_t, pvMk_f, pvMk_n, pvRecv_r, pvUp_nl, pvUp_same, pvUp_ap, pvSt_ap, pvX_c, pvX_ms, pvX_mn, pvE_nil, pvEn_i, pvEn_r, pvEn_l, pvEn_0, pvEn_s, pvRt, pvRv, pvTh, pvKc, pvGo, pvTgt, Int.toNat_natCast, false_and, and_false, true_and, and_true, if_true, if_false, reduceIte, reduceCtorEq, forall_const, false_or, or_false, true_or, or_true, ne_eq, not_true_eq_false, not_false_eq_true, implies_true, false_implies, Nat.reduceAdd, Nat.reduceSub, Nat.reduceMul, Nat.reduceEqDiff, Nat.reduceLT, Nat.reduceLeDiff, Int.reduceAdd, Int.reduceSub, Int.reduceMul, Int.reduceNeg, Int.reduceToNat, Int.reduceLE, Int.reduceLT, Int.reduceEq, Int.reduceNe, and_self]
        (repeat' (first | with_reducible apply And.intro | intro _))
        all_goals first
          | omega
          | exact q9
      refine hc 20 _ _ _ fun _ _ => ?_
      clear hc hS hz
      simp only [pvSt1]
      simp only [C_X10_isTransition, C_X10_fails, C_X10_changes, rcF, gn, pvE_aload_n0, pvLA_s, pvLd, pvE_iconst, pvE_putfield, pvPf_0, pvPf_1, fX10_73, pvSh_0, pvSh_1, pvSh_2, pvSh_3, pvSh_4, pvSh_5, pvSh_6, pvSh_7, pvSh_8, pvSh_9, pvSh_10, pvSh_11, pvSh_12, pvSh_13, pvSh_14, pvSh_15, pvSh_16, pvSh_17, pvSh_18, pvSh_19, pvSh_20, pvSh_21, pvSh_22, pvSh_23, pvSh_24, pvSh_25, pvSh_26, pvSh_27, pvSh_28, pvSh_29, pvSh_30, pvSh_31, pvSh_32, pvSh_33, pvSh_34, pvSh_35, pvSh_36, pvSh_37, pvSh_38, pvSh_39, pvSh_40, pvSh_41, pvSh_42, pvSh_43, pvSh_44, pvSh_45, pvSh_46, pvSh_47, pvSh_48, pvSh_49, pvSh_50, pvSh_51, pvSh_52, pvSh_53, pvSh_54, pvSh_55, pvSh_56, pvSh_57, pvSh_58, pvSh_59, pvE_iload_n1, pvLI_s, pvE_iload_n2, pvE_invokevirtual, pvC1_s, pvC2_s, pvAf_v, pvAf_x, pvPop, pvCs, pvCat, pvPush, aX10_removeTransition_134, pvE_if_ne, aX10_removeTransition_87, pvE_ireturn, aX10_removeTransition_95, pvE_getfield, pvGf_0, pvGf_1, pvGf_2, fX10_7, pvRf_0_0, pvRf_0_1, pvRf_0_2, pvRf_0_3, pvRf_0_4, pvRf_0_5, pvRf_0_6, pvRf_0_7, pvRf_0_8, pvRf_0_9, pvRf_0_10, pvRf_1_0, pvRf_3_0, pvRf_5_0, pvRf_5_1, pvRf_5_2, pvRf_9_0, pvRf_9_1, pvRf_9_2, pvRf_13_0, pvRf_13_1, pvRf_13_2, pvRf_17_0, pvRf_17_2, pvRf_20_0, pvRf_20_1, pvRf_20_2, pvRf_24_0, pvRf_24_1, pvRf_24_2, pvRf_28_0, pvRf_28_1, pvRf_28_2, pvRf_28_3, pvRf_33_0, pvRf_33_1, pvRf_36_0, pvRf_36_1, pvRf_39_0, pvRf_39_1, pvRf_39_2, pvRf_39_5, pvRf_39_6, pvRf_39_9, pvRf_39_13, pvRf_39_15, pvRf_39_16, pvRf_39_17, pvRf_39_19, pvRf_39_20, pvRf_39_22, pvRf_39_23, pvRf_39_24, pvRf_39_25, pvRf_39_29, pvRf_39_30, pvE_sipush, pvE_imul, pvE_iadd, pvE_dup2, pvE_iaload, pvAI, pvE_isub, pvE_iastore, pvE_invokestatic (h0 := eX10_130), aX10_removeTransition_130, pvE_istore_n3, pvS1, List.length_cons, List.length_nil, pvClr_i, pvClr_r, pvClr_l, pvClr_d, pvClr_f, pvClr_n, pvE_iload_n3, pvE_icmp_ge, pvE_bipush, pvE_iinc, pvIc_s, pvE_goto, bX10_removeTransition_0, uX10_removeTransition_0, bX10_removeTransition_20, uX10_removeTransition_20, bX10_removeTransition_24, uX10_removeTransition_24, bX10_removeTransition_46, uX10_removeTransition_46, bX10_removeTransition_87, uX10_removeTransition_87, pvMk_t, pvMk_f, pvMk_n, pvRecv_r, pvUp_nl, pvUp_same, pvUp_ap, pvSt_ap, pvX_c, pvX_ms, pvX_mn, pvE_nil, pvEn_i, pvEn_r, pvEn_l, pvEn_0, pvEn_s, pvRt, pvRv, pvTh, pvKc, pvGo, pvTgt, Int.toNat_natCast, false_and, and_false, true_and, and_true, if_true, if_false, reduceIte, reduceCtorEq, forall_const, false_or, or_false, true_or, or_true, ne_eq, not_true_eq_false, not_false_eq_true, implies_true, false_implies, Nat.reduceAdd, Nat.reduceSub, Nat.reduceMul, Nat.reduceEqDiff, Nat.reduceLT, Nat.reduceLeDiff, Int.reduceAdd, Int.reduceSub, Int.reduceMul, Int.reduceNeg, Int.reduceToNat, Int.reduceLE, Int.reduceLT, Int.reduceEq, Int.reduceNe, and_self]
      (repeat' (first | with_reducible apply And.intro | intro _))
      all_goals first
        | omega
        | skip
      all_goals
        rename_i z1 f1 k1 c1
        exact p24 z1 (frF_t (frF_u frF_0 (by decide)) f1 (by decide) (by decide)) (fun j h1 h2 => by rw [k1 j h1, if_neg h2]) (by rw [k1 8 (by decide)]; rfl) (chgF_8 c1)
    · have h3 := h1 hv
      refine hc 20 _ _ _ fun _ _ => ?_
      clear hc hS hz
      simp only [pvSt1]
      simp only [C_X10_isTransition, C_X10_fails, pvE_aload_n0, pvLA_s, pvLd, pvE_iconst, pvE_putfield, pvPf_0, pvPf_1, fX10_73, pvSh_0, pvSh_1, pvSh_2, pvSh_3, pvSh_4, pvSh_5, pvSh_6, pvSh_7, pvSh_8, pvSh_9, pvSh_10, pvSh_11, pvSh_12, pvSh_13, pvSh_14, pvSh_15, pvSh_16, pvSh_17, pvSh_18, pvSh_19, pvSh_20, pvSh_21, pvSh_22, pvSh_23, pvSh_24, pvSh_25, pvSh_26, pvSh_27, pvSh_28, pvSh_29, pvSh_30, pvSh_31, pvSh_32, pvSh_33, pvSh_34, pvSh_35, pvSh_36, pvSh_37, pvSh_38, pvSh_39, pvSh_40, pvSh_41, pvSh_42, pvSh_43, pvSh_44, pvSh_45, pvSh_46, pvSh_47, pvSh_48, pvSh_49, pvSh_50, pvSh_51, pvSh_52, pvSh_53, pvSh_54, pvSh_55, pvSh_56, pvSh_57, pvSh_58, pvSh_59, pvE_iload_n1, pvLI_s, pvE_iload_n2, pvE_invokevirtual, pvC1_s, pvC2_s, pvAf_v, pvAf_x, pvPop, pvCs, pvCat, pvPush, aX10_removeTransition_134, pvE_if_ne, aX10_removeTransition_87, pvE_ireturn, aX10_removeTransition_95, pvE_getfield, pvGf_0, pvGf_1, pvGf_2, fX10_7, pvRf_0_0, pvRf_0_1, pvRf_0_2, pvRf_0_3, pvRf_0_4, pvRf_0_5, pvRf_0_6, pvRf_0_7, pvRf_0_8, pvRf_0_9, pvRf_0_10, pvRf_1_0, pvRf_3_0, pvRf_5_0, pvRf_5_1, pvRf_5_2, pvRf_9_0, pvRf_9_1, pvRf_9_2, pvRf_13_0, pvRf_13_1, pvRf_13_2, pvRf_17_0, pvRf_17_2, pvRf_20_0, pvRf_20_1, pvRf_20_2, pvRf_24_0, pvRf_24_1, pvRf_24_2, pvRf_28_0, pvRf_28_1, pvRf_28_2, pvRf_28_3, pvRf_33_0, pvRf_33_1, pvRf_36_0, pvRf_36_1, pvRf_39_0, pvRf_39_1, pvRf_39_2, pvRf_39_5, pvRf_39_6, pvRf_39_9, pvRf_39_13, pvRf_39_15, pvRf_39_16, pvRf_39_17, pvRf_39_19, pvRf_39_20, pvRf_39_22, pvRf_39_23, pvRf_39_24, pvRf_39_25, pvRf_39_29, pvRf_39_30, pvE_sipush, pvE_imul, pvE_iadd, pvE_dup2, pvE_iaload, pvAI, pvE_isub, pvE_iastore, pvE_invokestatic (h0 := eX10_130), aX10_removeTransition_130, pvE_istore_n3, pvS1, List.length_cons, List.length_nil, pvClr_i, pvClr_r, pvClr_l, pvClr_d, pvClr_f, pvClr_n, pvE_iload_n3, pvE_icmp_ge, pvE_bipush, pvE_iinc, pvIc_s, pvE_goto, bX10_removeTransition_0, uX10_removeTransition_0, bX10_removeTransition_20, uX10_removeTransition_20, bX10_removeTransition_24, uX10_removeTransition_24, bX10_removeTransition_46, uX10_removeTransition_46, bX10_removeTransition_87, uX10_removeTransition_87, pvMk_t, pvMk_f, pvMk_n, pvRecv_r, pvUp_nl, pvUp_same, pvUp_ap, pvSt_ap, pvX_c, pvX_ms, pvX_mn, pvE_nil, pvEn_i, pvEn_r, pvEn_l, pvEn_0, pvEn_s, pvRt, pvRv, pvTh, pvKc, pvGo, pvTgt, Int.toNat_natCast, false_and, and_false, true_and, and_true, if_true, if_false, reduceIte, reduceCtorEq, forall_const, false_or, or_false, true_or, or_true, ne_eq, not_true_eq_false, not_false_eq_true, implies_true, false_implies, Nat.reduceAdd, Nat.reduceSub, Nat.reduceMul, Nat.reduceEqDiff, Nat.reduceLT, Nat.reduceLeDiff, Int.reduceAdd, Int.reduceSub, Int.reduceMul, Int.reduceNeg, Int.reduceToNat, Int.reduceLE, Int.reduceLT, Int.reduceEq, Int.reduceNe, and_self]
      by_cases hs : 0 ≤ s ∧ s ≤ 1
      · have hn := (hw s hs).1
        have er := rc_of (z := z) hs.1
        simp only [rcF, pvUp_ap, Nat.reduceEqDiff, false_and, if_false, reduceIte] at er ⊢
        rw [er]
        have hv' : ¬ (0 ≤ t ∧ t < (autR (z.1 40) s).1) := fun q => hv ⟨hs, q⟩
        (repeat' (first | with_reducible apply And.intro | intro _))
        all_goals first
          | omega
          | assumption
      · (repeat' (first | with_reducible apply And.intro | intro _))
        all_goals first
          | omega
          | assumption
  · exact h.elim
