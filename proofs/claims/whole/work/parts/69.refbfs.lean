/-! the reference's search: layer by layer -/
noncomputable def lvN (A B : Aut) (c : Int) : Nat := @Classical.epsilon Nat ⟨0⟩ (fun n => lqF A B n c)
theorem lvN_eq {A B : Aut} {n : Nat} {c : Int} (h : lqF A B n c) : lvN A B c = n :=
  lv_un (@Classical.epsilon_spec_aux Nat ⟨0⟩ (fun n => lqF A B n c) ⟨n, h⟩) h
/-- the queue and the distances -/
def rqF (A B : Aut) (z : pvM) (Qs : List Int) : Prop := z.1 39 26 = Qs.length ∧ (∀ i, i < Qs.length → z.1 55 i = ndC (ndF Qs i)) ∧ (∀ c, okQ c → z.1 53 (ndC c).toNat = if c ∈ Qs then ((lvN A B c : Nat) : Int) else -1) ∧ Qs.Nodup ∧ (∀ c ∈ Qs, okQ c ∧ lqF A B (lvN A B c) c)
theorem rq_len {A B : Aut} {z : pvM} {Qs : List Int} (h : rqF A B z Qs) : Qs.length ≤ 23552 := by
  have := nd_len 23552 (Qs.map ndC) (nc_map h.2.2.2.1 (fun c hc => (h.2.2.2.2 c hc).1)) (fun x hx => by
    obtain ⟨c, hc, rfl⟩ := List.mem_map.mp hx
    exact nc_r (h.2.2.2.2 c hc).1)
  rwa [List.length_map] at this
theorem rq_lt {A B : Aut} {z : pvM} {Qs : List Int} (h : rqF A B z Qs) {x : Int} (hx : okQ x) (hn : x ∉ Qs) : Qs.length < 23552 := by
  have := nd_len 23552 ((Qs ++ [x]).map ndC) (nc_map (nodup_s h.2.2.2.1 hn) (fun c hc => by
    rcases List.mem_append.mp hc with hc | hc
    · exact (h.2.2.2.2 c hc).1
    · simp only [List.mem_singleton] at hc; subst hc; exact hx)) (fun y hy => by
    obtain ⟨c, hc, rfl⟩ := List.mem_map.mp hy
    rcases List.mem_append.mp hc with hc | hc
    · exact nc_r (h.2.2.2.2 c hc).1
    · simp only [List.mem_singleton] at hc; subst hc; exact nc_r hx)
  rw [List.length_map, List.length_append, List.length_singleton] at this
  omega
def C_X10_comes : pvC
  | [.inr (.inr (.inl id)), .inl s, .inl n, .inl d], z, Q => id = 39 ∧ ∃ (A B : Aut) (Qs : List Int) (c : Int), (srP z s A B ∧ rqF A B z Qs ∧ n = nxC c ∧ (c = -1 ∨ okQ c) ∧ (c ∉ Qs → c ≠ -1 → lqF A B d.toNat c ∧ 0 ≤ d)) ∧
      ((c = -1 ∨ c ∈ Qs) → Q (.inl none) z) ∧
      (c ≠ -1 → c ∉ Qs → ∀ z' : pvM, frF [39, 53, 55] [] z z' → (∀ j, j ≠ 26 → j ≠ 27 → z'.1 39 j = z.1 39 j) → rqF A B z' (Qs ++ [c]) → (z.1 39 27 < 0 ∧ goF A B c → z'.1 39 27 = d) → (¬ (z.1 39 27 < 0 ∧ goF A B c) → z'.1 39 27 = z.1 39 27) → Q (.inl none) z')
  | _, _, _ => False
def bX10_comes : Nat → List (Instr × Nat)
  | 0 => [(.iload_n 2, 1), (.ifCond .lt 12, 3), (.aload_n 0, 1), (.getfield 54, 3), (.iload_n 2, 1), (.iaload, 1), (.ifCond .lt 4, 3)]
  | 13 => [(.return_, 1)]
  | 14 => [(.aload_n 0, 1), (.getfield 54, 3), (.iload_n 2, 1), (.iload_n 3, 1), (.iastore, 1), (.aload_n 0, 1), (.getfield 60, 3), (.aload_n 0, 1), (.getfield 225, 3), (.iload_n 2, 1), (.iastore, 1), (.aload_n 0, 1), (.dup, 1), (.getfield 225, 3), (.iconst 1, 1), (.iadd, 1), (.putfield 225, 3), (.aload_n 0, 1), (.getfield 228, 3), (.ifCond .ge 17, 3), (.aload_n 0, 1), (.iload_n 1, 1), (.iload_n 2, 1), (.invokevirtual 231, 3), (.ifCond .eq 8, 3), (.aload_n 0, 1), (.iload_n 3, 1), (.putfield 228, 3)]
  | 62 => [(.return_, 1)]
  | _ => []
def uX10_comes : Nat → Option (List Bool)
  | _ => none
def aX10_comes : pvCa
  | 231 => some (3, false, 9, 0, C_X10_isGoal)
  | _ => none
theorem bX10_comes_0 : bX10_comes 0 = [(.iload_n 2, 1), (.ifCond .lt 12, 3), (.aload_n 0, 1), (.getfield 54, 3), (.iload_n 2, 1), (.iaload, 1), (.ifCond .lt 4, 3)] := rfl
theorem uX10_comes_0 : uX10_comes 0 = none := rfl
theorem bX10_comes_13 : bX10_comes 13 = [(.return_, 1)] := rfl
theorem uX10_comes_13 : uX10_comes 13 = none := rfl
theorem bX10_comes_14 : bX10_comes 14 = [(.aload_n 0, 1), (.getfield 54, 3), (.iload_n 2, 1), (.iload_n 3, 1), (.iastore, 1), (.aload_n 0, 1), (.getfield 60, 3), (.aload_n 0, 1), (.getfield 225, 3), (.iload_n 2, 1), (.iastore, 1), (.aload_n 0, 1), (.dup, 1), (.getfield 225, 3), (.iconst 1, 1), (.iadd, 1), (.putfield 225, 3), (.aload_n 0, 1), (.getfield 228, 3), (.ifCond .ge 17, 3), (.aload_n 0, 1), (.iload_n 1, 1), (.iload_n 2, 1), (.invokevirtual 231, 3), (.ifCond .eq 8, 3), (.aload_n 0, 1), (.iload_n 3, 1), (.putfield 228, 3)] := rfl
theorem uX10_comes_14 : uX10_comes 14 = none := rfl
theorem bX10_comes_62 : bX10_comes 62 = [(.return_, 1)] := rfl
theorem uX10_comes_62 : uX10_comes 62 = none := rfl
theorem aX10_comes_231 : aX10_comes 231 = some (3, false, 9, 0, C_X10_isGoal) := rfl
def mX10_comes : Room := { frames := 1, cells := 1, slots := 6, locals := 23 }
set_option maxRecDepth 100000 in
set_option maxHeartbeats 4000000 in
theorem okX10_comes : pvOkM fX10 aX10_comes kX10 eX10 none bX10_comes uX10_comes 4 C_X10_comes := by
  intro Q SW hc as z h hS hz
  unfold C_X10_comes at h
  split at h
  · rename_i id s n d
    obtain ⟨rfl, A, B, Qs, c, ⟨hs, hq, rfl, hok, hlv⟩, h1, h2⟩ := h
    have hlen := rq_len hq
    obtain ⟨q1, q2, q3, q4, q5⟩ := hq
    refine ⟨Nat.le_of_ble_eq_true rfl, hc 20 _ _ _ fun _ _ => ?_⟩
    clear hc hS hz
    simp only [pvSt1]
    by_cases e1 : c = -1
    · have q9 := h1 (Or.inl e1)
      have en : nxC c = -1 := if_pos e1
      rw [en]
      simp only [pvE_iload_n2, pvLI_s, pvLd, pvE_if_lt, pvE_aload_n0, pvLA_s, pvE_getfield, pvGf_0, pvGf_1, pvGf_2, fX10_54, pvSh_0, pvSh_1, pvSh_2, pvSh_3, pvSh_4, pvSh_5, pvSh_6, pvSh_7, pvSh_8, pvSh_9, pvSh_10, pvSh_11, pvSh_12, pvSh_13, pvSh_14, pvSh_15, pvSh_16, pvSh_17, pvSh_18, pvSh_19, pvSh_20, pvSh_21, pvSh_22, pvSh_23, pvSh_24, pvSh_25, pvSh_26, pvSh_27, pvSh_28, pvSh_29, pvSh_30, pvSh_31, pvSh_32, pvSh_33, pvSh_34, pvSh_35, pvSh_36, pvSh_37, pvSh_38, pvSh_39, pvSh_40, pvSh_41, pvSh_42, pvSh_43, pvSh_44, pvSh_45, pvSh_46, pvSh_47, pvSh_48, pvSh_49, pvSh_50, pvSh_51, pvSh_52, pvSh_53, pvSh_54, pvSh_55, pvSh_56, pvSh_57, pvSh_58, pvSh_59, pvRf_0_0, pvRf_0_1, pvRf_0_2, pvRf_0_3, pvRf_0_4, pvRf_0_5, pvRf_0_6, pvRf_0_7, pvRf_0_8, pvRf_0_9, pvRf_0_10, pvRf_1_0, pvRf_3_0, pvRf_5_0, pvRf_5_1, pvRf_5_2, pvRf_9_0, pvRf_9_1, pvRf_9_2, pvRf_13_0, pvRf_13_1, pvRf_13_2, pvRf_17_0, pvRf_17_2, pvRf_20_0, pvRf_20_1, pvRf_20_2, pvRf_24_0, pvRf_24_1, pvRf_24_2, pvRf_28_0, pvRf_28_1, pvRf_28_2, pvRf_28_3, pvRf_33_0, pvRf_33_1, pvRf_36_0, pvRf_36_1, pvRf_39_0, pvRf_39_1, pvRf_39_2, pvRf_39_5, pvRf_39_6, pvRf_39_9, pvRf_39_13, pvRf_39_15, pvRf_39_16, pvRf_39_17, pvRf_39_19, pvRf_39_20, pvRf_39_22, pvRf_39_23, pvRf_39_24, pvRf_39_25, pvRf_39_29, pvRf_39_30, pvE_iaload, pvAI, pvE_return, pvE_iload_n3, pvE_iastore, fX10_60, fX10_225, pvE_dup_i, pvE_dup_r, pvE_iconst, pvE_iadd, pvE_putfield, pvPf_0, pvPf_1, fX10_228, pvE_if_ge, pvE_iload_n1, pvE_invokevirtual, pvC1_s, pvC2_s, pvAf_v, pvAf_x, pvPop, pvCs, pvCat, pvPush, aX10_comes_231, pvE_if_eq, bX10_comes_0, uX10_comes_0, bX10_comes_13, uX10_comes_13, bX10_comes_14, uX10_comes_14, bX10_comes_62, uX10_comes_62, pvRecv_r, pvUp_nl, pvUp_same, pvUp_ap, pvSt_ap, pvX_c, pvX_ms, pvX_mn, pvE_nil, pvEn_i, pvEn_r, pvEn_l, pvEn_0, pvEn_s, pvRt, pvRv, pvTh, pvKc, pvGo, pvTgt, Int.toNat_natCast, false_and, and_false, true_and, and_true, if_true, if_false, reduceIte, reduceCtorEq, forall_const, false_or, or_false, true_or, or_true, ne_eq, not_true_eq_false, not_false_eq_true, implies_true, false_implies, Nat.reduceAdd, Nat.reduceSub, Nat.reduceMul, Nat.reduceEqDiff, Nat.reduceLT, Nat.reduceLeDiff, Int.reduceAdd, Int.reduceSub, Int.reduceMul, Int.reduceNeg, Int.reduceToNat, Int.reduceLE, Int.reduceLT, Int.reduceEq, Int.reduceNe, and_self]
      (repeat' first | with_reducible apply And.intro | with_reducible intro _)
      all_goals first
        | omega
        | contradiction
        | exact q9
    · have hok' : okQ c := hok.elim (fun h => absurd h e1) id
      have en : nxC c = ndC c := if_neg e1
      have hnr := nc_r hok'
      have hd := q3 c hok'
      rw [en]
      by_cases hm : c ∈ Qs
      · rw [if_pos hm] at hd
        have q9 := h1 (Or.inr hm)
        simp only [hd, pvE_iload_n2, pvLI_s, pvLd, pvE_if_lt, pvE_aload_n0, pvLA_s, pvE_getfield, pvGf_0, pvGf_1, pvGf_2, fX10_54, pvSh_0, pvSh_1, pvSh_2, pvSh_3, pvSh_4, pvSh_5, pvSh_6, pvSh_7, pvSh_8, pvSh_9, pvSh_10, pvSh_11, pvSh_12, pvSh_13, pvSh_14, pvSh_15, pvSh_16, pvSh_17, pvSh_18, pvSh_19, pvSh_20, pvSh_21, pvSh_22, pvSh_23, pvSh_24, pvSh_25, pvSh_26, pvSh_27, pvSh_28, pvSh_29, pvSh_30, pvSh_31, pvSh_32, pvSh_33, pvSh_34, pvSh_35, pvSh_36, pvSh_37, pvSh_38, pvSh_39, pvSh_40, pvSh_41, pvSh_42, pvSh_43, pvSh_44, pvSh_45, pvSh_46, pvSh_47, pvSh_48, pvSh_49, pvSh_50, pvSh_51, pvSh_52, pvSh_53, pvSh_54, pvSh_55, pvSh_56, pvSh_57, pvSh_58, pvSh_59, pvRf_0_0, pvRf_0_1, pvRf_0_2, pvRf_0_3, pvRf_0_4, pvRf_0_5, pvRf_0_6, pvRf_0_7, pvRf_0_8, pvRf_0_9, pvRf_0_10, pvRf_1_0, pvRf_3_0, pvRf_5_0, pvRf_5_1, pvRf_5_2, pvRf_9_0, pvRf_9_1, pvRf_9_2, pvRf_13_0, pvRf_13_1, pvRf_13_2, pvRf_17_0, pvRf_17_2, pvRf_20_0, pvRf_20_1, pvRf_20_2, pvRf_24_0, pvRf_24_1, pvRf_24_2, pvRf_28_0, pvRf_28_1, pvRf_28_2, pvRf_28_3, pvRf_33_0, pvRf_33_1, pvRf_36_0, pvRf_36_1, pvRf_39_0, pvRf_39_1, pvRf_39_2, pvRf_39_5, pvRf_39_6, pvRf_39_9, pvRf_39_13, pvRf_39_15, pvRf_39_16, pvRf_39_17, pvRf_39_19, pvRf_39_20, pvRf_39_22, pvRf_39_23, pvRf_39_24, pvRf_39_25, pvRf_39_29, pvRf_39_30, pvE_iaload, pvAI, pvE_return, pvE_iload_n3, pvE_iastore, fX10_60, fX10_225, pvE_dup_i, pvE_dup_r, pvE_iconst, pvE_iadd, pvE_putfield, pvPf_0, pvPf_1, fX10_228, pvE_if_ge, pvE_iload_n1, pvE_invokevirtual, pvC1_s, pvC2_s, pvAf_v, pvAf_x, pvPop, pvCs, pvCat, pvPush, aX10_comes_231, pvE_if_eq, bX10_comes_0, uX10_comes_0, bX10_comes_13, uX10_comes_13, bX10_comes_14, uX10_comes_14, bX10_comes_62, uX10_comes_62, pvRecv_r, pvUp_nl, pvUp_same, pvUp_ap, pvSt_ap, pvX_c, pvX_ms, pvX_mn, pvE_nil, pvEn_i, pvEn_r, pvEn_l, pvEn_0, pvEn_s, pvRt, pvRv, pvTh, pvKc, pvGo, pvTgt, Int.toNat_natCast, false_and, and_false, true_and, and_true, if_true, if_false, reduceIte, reduceCtorEq, forall_const, false_or, or_false, true_or, or_true, ne_eq, not_true_eq_false, not_false_eq_true, implies_true, false_implies, Nat.reduceAdd, Nat.reduceSub, Nat.reduceMul, Nat.reduceEqDiff, Nat.reduceLT, Nat.reduceLeDiff, Int.reduceAdd, Int.reduceSub, Int.reduceMul, Int.reduceNeg, Int.reduceToNat, Int.reduceLE, Int.reduceLT, Int.reduceEq, Int.reduceNe, and_self]
        (repeat' first | with_reducible apply And.intro | with_reducible intro _)
        all_goals first
          | omega
          | contradiction
          | exact q9
      · rw [if_neg hm] at hd
        obtain ⟨l1, l2⟩ := hlv hm e1
        have hlt := rq_lt ⟨q1, q2, q3, q4, q5⟩ hok' hm
        have eD := lvN_eq l1
        have h3 := h2 e1 hm
        have rq : ∀ z' : pvM, z'.1 39 26 = (Qs.length : Int) + 1 → (∀ i, z'.1 55 i = if i = Qs.length then ndC c else z.1 55 i) → (∀ i, z'.1 53 i = if i = (ndC c).toNat then d else z.1 53 i) → rqF A B z' (Qs ++ [c]) := by
          intro z' a1 a2 a3
          refine ⟨by rw [a1, List.length_append, List.length_singleton]; rfl, fun i hi => ?_, fun c' hc' => ?_, nodup_s q4 hm, fun c' hc' => ?_⟩
          · rw [a2 i]
            rw [List.length_append, List.length_singleton] at hi
            by_cases ei : i = Qs.length
            · subst ei; rw [if_pos rfl, ndF_b]
            · rw [if_neg ei, ndF_a (by omega)]; exact q2 i (by omega)
          · rw [a3]
            by_cases ecc : c' = c
            · subst ecc
              rw [if_pos rfl, if_pos (by simp), eD]
              omega
            · have hne : (ndC c').toNat ≠ (ndC c).toNat := fun e => ecc (nc_inj hc' hok' (by have := nc_r hc'; omega))
              rw [if_neg hne, q3 c' hc']
              by_cases hi : c' ∈ Qs
              · rw [if_pos hi, if_pos (List.mem_append_left _ hi)]
              · rw [if_neg hi, if_neg (by simp [hi, ecc])]
          · rcases List.mem_append.mp hc' with hc' | hc'
            · exact q5 c' hc'
            · simp only [List.mem_singleton] at hc'
              subst hc'
              exact ⟨hok', by rw [eD]; exact l1⟩
        simp only [C_X10_isGoal, hd, q1, pvE_iload_n2, pvLI_s, pvLd, pvE_if_lt, pvE_aload_n0, pvLA_s, pvE_getfield, pvGf_0, pvGf_1, pvGf_2, fX10_54, pvSh_0, pvSh_1, pvSh_2, pvSh_3, pvSh_4, pvSh_5, pvSh_6, pvSh_7, pvSh_8, pvSh_9, pvSh_10, pvSh_11, pvSh_12, pvSh_13, pvSh_14, pvSh_15, pvSh_16, pvSh_17, pvSh_18, pvSh_19, pvSh_20, pvSh_21, pvSh_22, pvSh_23, pvSh_24, pvSh_25, pvSh_26, pvSh_27, pvSh_28, pvSh_29, pvSh_30, pvSh_31, pvSh_32, pvSh_33, pvSh_34, pvSh_35, pvSh_36, pvSh_37, pvSh_38, pvSh_39, pvSh_40, pvSh_41, pvSh_42, pvSh_43, pvSh_44, pvSh_45, pvSh_46, pvSh_47, pvSh_48, pvSh_49, pvSh_50, pvSh_51, pvSh_52, pvSh_53, pvSh_54, pvSh_55, pvSh_56, pvSh_57, pvSh_58, pvSh_59, pvRf_0_0, pvRf_0_1, pvRf_0_2, pvRf_0_3, pvRf_0_4, pvRf_0_5, pvRf_0_6, pvRf_0_7, pvRf_0_8, pvRf_0_9, pvRf_0_10, pvRf_1_0, pvRf_3_0, pvRf_5_0, pvRf_5_1, pvRf_5_2, pvRf_9_0, pvRf_9_1, pvRf_9_2, pvRf_13_0, pvRf_13_1, pvRf_13_2, pvRf_17_0, pvRf_17_2, pvRf_20_0, pvRf_20_1, pvRf_20_2, pvRf_24_0, pvRf_24_1, pvRf_24_2, pvRf_28_0, pvRf_28_1, pvRf_28_2, pvRf_28_3, pvRf_33_0, pvRf_33_1, pvRf_36_0, pvRf_36_1, pvRf_39_0, pvRf_39_1, pvRf_39_2, pvRf_39_5, pvRf_39_6, pvRf_39_9, pvRf_39_13, pvRf_39_15, pvRf_39_16, pvRf_39_17, pvRf_39_19, pvRf_39_20, pvRf_39_22, pvRf_39_23, pvRf_39_24, pvRf_39_25, pvRf_39_29, pvRf_39_30, pvE_iaload, pvAI, pvE_return, pvE_iload_n3, pvE_iastore, fX10_60, fX10_225, pvE_dup_i, pvE_dup_r, pvE_iconst, pvE_iadd, pvE_putfield, pvPf_0, pvPf_1, fX10_228, pvE_if_ge, pvE_iload_n1, pvE_invokevirtual, pvC1_s, pvC2_s, pvAf_v, pvAf_x, pvPop, pvCs, pvCat, pvPush, aX10_comes_231, pvE_if_eq, bX10_comes_0, uX10_comes_0, bX10_comes_13, uX10_comes_13, bX10_comes_14, uX10_comes_14, bX10_comes_62, uX10_comes_62, pvRecv_r, pvUp_nl, pvUp_same, pvUp_ap, pvSt_ap, pvX_c, pvX_ms, pvX_mn, pvE_nil, pvEn_i, pvEn_r, pvEn_l, pvEn_0, pvEn_s, pvRt, pvRv, pvTh, pvKc, pvGo, pvTgt, Int.toNat_natCast, false_and, and_false, true_and, and_true, if_true, if_false, reduceIte, reduceCtorEq, forall_const, false_or, or_false, true_or, or_true, ne_eq, not_true_eq_false, not_false_eq_true, implies_true, false_implies, Nat.reduceAdd, Nat.reduceSub, Nat.reduceMul, Nat.reduceEqDiff, Nat.reduceLT, Nat.reduceLeDiff, Int.reduceAdd, Int.reduceSub, Int.reduceMul, Int.reduceNeg, Int.reduceToNat, Int.reduceLE, Int.reduceLT, Int.reduceEq, Int.reduceNe, and_self]
        (repeat' first | with_reducible apply And.intro | with_reducible intro _)
        all_goals first
          | omega
          | contradiction
          | skip
        · refine h3 _ (by (repeat' first | assumption | exact frF_0 | (refine frF_u ?_ (by decide)) | (refine frF_s ?_ (by decide)) | (refine frF_l ?_ (by decide)))) (fun j a1 a2 => by simp (disch := omega) only [pvUp_ap, if_neg]) (rq _ (by simp [pvUp_ap]) (fun i => by simp [pvUp_ap]) (fun i => by simp [pvUp_ap])) (fun h => by omega) (fun _ => by simp [pvUp_ap])
        · refine ⟨A, B, c, ⟨srP_m (ids := [39, 53, 55]) (jds := []) hs (by (repeat' first | assumption | exact frF_0 | (refine frF_u ?_ (by decide)) | (refine frF_s ?_ (by decide)) | (refine frF_l ?_ (by decide)))) (by simp) (by simp [pvUp_ap]), hok', rfl⟩, fun hg => ?_, fun hg => ?_⟩
          · have q9 := h3 (pvUp (pvUp (pvUp (pvUp z.1 53 (ndC c).toNat d) 55 Qs.length (ndC c)) 39 26 ((Qs.length : Int) + 1)) 39 27 d, z.2) (by (repeat' first | assumption | exact frF_0 | (refine frF_u ?_ (by decide)) | (refine frF_s ?_ (by decide)) | (refine frF_l ?_ (by decide)))) (fun j a1 a2 => by simp (disch := omega) only [pvUp_ap, if_neg]) (rq _ (by simp [pvUp_ap]) (fun i => by simp [pvUp_ap]) (fun i => by simp [pvUp_ap])) (fun h => by simp [pvUp_ap]) (fun h => absurd ⟨by omega, hg⟩ h)
            (repeat' first | with_reducible apply And.intro | with_reducible intro _)
            all_goals first
              | omega
              | contradiction
              | exact q9
          · have q9 := h3 (pvUp (pvUp (pvUp z.1 53 (ndC c).toNat d) 55 Qs.length (ndC c)) 39 26 ((Qs.length : Int) + 1), z.2) (by (repeat' first | assumption | exact frF_0 | (refine frF_u ?_ (by decide)) | (refine frF_s ?_ (by decide)) | (refine frF_l ?_ (by decide)))) (fun j a1 a2 => by simp (disch := omega) only [pvUp_ap, if_neg]) (rq _ (by simp [pvUp_ap]) (fun i => by simp [pvUp_ap]) (fun i => by simp [pvUp_ap])) (fun h => absurd h.2 hg) (fun _ => by simp [pvUp_ap])
            (repeat' first | with_reducible apply And.intro | with_reducible intro _)
            all_goals first
              | omega
              | contradiction
              | exact q9
  · exact h.elim
/-- what is found among the first of the queue -/
def fnF (A B : Aut) (Qs : List Int) (f : Int) : Prop := (f = -1 ∧ ∀ c ∈ Qs, ¬ goF A B c) ∨ (0 ≤ f ∧ (∃ c ∈ Qs, goF A B c ∧ ((lvN A B c : Nat) : Int) = f) ∧ ∀ c ∈ Qs, goF A B c → f ≤ lvN A B c)
/-- the queue sorted, its first, and all found behind the first i of it -/
def soF (A B : Aut) (Qs : List Int) (i : Nat) : Prop := (∀ j k, j ≤ k → k < Qs.length → lvN A B (ndF Qs j) ≤ lvN A B (ndF Qs k)) ∧ (0 < Qs.length ∧ ndF Qs 0 = c0F A B) ∧ (∀ j, j < i → j < Qs.length → ∀ a d : Int, (0 ≤ a ∧ a ≤ 2) → (0 ≤ d ∧ d ≤ 4) → stF1 A B (ndF Qs j) a d ≠ -1 → stF1 A B (ndF Qs j) a d ∈ Qs)
theorem so_rc {A B : Aut} {Qs : List Int} {i : Nat} (h : soF A B Qs i) (hq : ∀ c ∈ Qs, lqF A B (lvN A B c) c) (n : Nat) (hn : i < Qs.length → n ≤ lvN A B (ndF Qs i)) : ∀ c, rcK A B n c → c ∈ Qs := by
  induction n with
  | zero =>
    intro c hc
    rw [show c = c0F A B from hc, ← h.2.1.2]
    exact ndF_m h.2.1.1
  | succ n ih =>
    rintro c ⟨c', a, d, h1, ha, hd, hs, h0⟩
    have hm := ih (fun hi => by have := hn hi; omega) c' h1
    obtain ⟨x1, x2⟩ := ixN_lt hm
    have hle : lvN A B c' ≤ n := by
      have h9 := (hq c' hm).2
      by_cases e : lvN A B c' ≤ n
      · exact e
      · exact absurd h1 (h9 n (by omega))
    have hji : ixN Qs c' < i := by
      by_cases e : ixN Qs c' < i
      · exact e
      · have h8 := h.1 i (ixN Qs c') (by omega) x1
        rw [x2] at h8
        have := hn (by omega)
        omega
    have := h.2.2 _ hji x1 a d ha hd (by rw [x2, hs]; omega)
    rw [x2, hs] at this
    exact this
/-- a search done: all configurations up to the found level are in the queue -/
def sdF (A B : Aut) (z : pvM) (Qs : List Int) : Prop := rqF A B z Qs ∧ (0 < Qs.length ∧ ndF Qs 0 = c0F A B) ∧ (∀ j k, j ≤ k → k < Qs.length → lvN A B (ndF Qs j) ≤ lvN A B (ndF Qs k)) ∧
  ((z.1 39 27 = -1 ∧ ¬ ∃ F, fdF A B F) ∨ ∃ F : Nat, z.1 39 27 = F ∧ fdF A B F ∧ F < 23552 ∧ ∀ n, n ≤ F → ∀ c, rcK A B n c → c ∈ Qs)
theorem fn_s {A B : Aut} {Qs : List Int} {f f' : Int} {c : Int} (h : fnF A B Qs f) (hmax : ∀ x ∈ Qs, lvN A B x ≤ lvN A B c) (h1 : f < 0 ∧ goF A B c → f' = lvN A B c) (h2 : ¬ (f < 0 ∧ goF A B c) → f' = f) : fnF A B (Qs ++ [c]) f' := by
  have hm : ∀ x, x ∈ Qs ++ [c] ↔ x ∈ Qs ∨ x = c := fun x => by simp
  rcases h with ⟨e, hn⟩ | ⟨h0, ⟨c1, a1, a2, a3⟩, hle⟩
  · by_cases hg : goF A B c
    · have e1 := h1 ⟨by omega, hg⟩
      refine Or.inr ⟨by omega, ⟨c, (hm c).mpr (Or.inr rfl), hg, e1.symm⟩, fun x hx hgx => ?_⟩
      rcases (hm x).mp hx with hx | rfl
      · exact absurd hgx (hn x hx)
      · omega
    · have e1 := h2 (fun q => hg q.2)
      refine Or.inl ⟨by omega, fun x hx => ?_⟩
      rcases (hm x).mp hx with hx | rfl
      · exact hn x hx
      · exact hg
  · have e1 := h2 (fun q => by omega)
    refine Or.inr ⟨by omega, ⟨c1, (hm c1).mpr (Or.inl a1), a2, by omega⟩, fun x hx hgx => ?_⟩
    rcases (hm x).mp hx with hx | rfl
    · have := hle x hx hgx; omega
    · have := hmax c1 a1; omega
def C_X10_searches : pvC
  | [.inr (.inr (.inl id)), .inl s, .inl pr], z, Q => id = 39 ∧ ((0 ≤ s ∧ s ≤ 1) ∧ (pr = 0 ∨ pr = 1) ∧ (∀ s' : Int, 0 ≤ s' ∧ s' ≤ 1 → WfA (autR (z.1 40) s')) ∧ smP z) ∧
      ∀ (z' : pvM) (Qs : List Int) (A B : Aut), frF [39, 48, 53, 55] [] z z' → (∀ j, j ≠ 26 → j ≠ 27 → j ≠ 28 → z'.1 39 j = z.1 39 j) → srP z' s A B → A = autR (z.1 40) s → B = (if pr = 0 then emA else autR (z.1 40) (1 - s)) → sdF A B z' Qs → Q (.inl none) z'
  | _, _, _ => False
def bX10_searches : Nat → List (Instr × Nat)
  | 0 => [(.aload_n 0, 1), (.iload_n 2, 1), (.putfield 222, 3), (.aload_n 0, 1), (.invokevirtual 197, 3), (.iconst 0, 1), (.istore_n 3, 1)]
  | 11 => [(.iload_n 3, 1), (.sipush 23552, 3), (.if_icmp .ge 16, 3), (.aload_n 0, 1), (.getfield 54, 3), (.iload_n 3, 1), (.iconst (-1), 1), (.iastore, 1), (.iinc 3 1, 3), (.goto (-17), 3)]
  | 31 => [(.aload_n 0, 1), (.iconst 0, 1), (.putfield 225, 3), (.aload_n 0, 1), (.iconst (-1), 1), (.putfield 228, 3), (.aload_n 0, 1), (.iload_n 1, 1), (.sipush 256, 3), (.aload_n 0, 1), (.getfield 51, 3), (.sipush 215, 3), (.iaload, 1), (.imul, 1), (.bipush 16, 2), (.aload_n 0, 1), (.getfield 7, 3), (.sipush 163, 3), (.iload_n 1, 1), (.imul, 1), (.iaload, 1), (.imul, 1), (.iadd, 1), (.iload_n 2, 1), (.ifCond .eq 18, 3), (.aload_n 0, 1), (.getfield 7, 3), (.sipush 163, 3), (.iconst 1, 1), (.iload_n 1, 1), (.isub, 1), (.imul, 1), (.iaload, 1), (.goto 4, 3)]
  | 88 => [(.iconst 0, 1)]
  | 89 => [(.iadd, 1), (.iconst 0, 1), (.invokevirtual 234, 3), (.iconst 0, 1), (.istore_n 3, 1)]
  | 96 => [(.iload_n 3, 1), (.aload_n 0, 1), (.getfield 225, 3), (.if_icmp .ge 98, 3), (.aload_n 0, 1), (.getfield 60, 3), (.iload_n 3, 1), (.iaload, 1), (.istore 4, 2), (.aload_n 0, 1), (.getfield 228, 3), (.ifCond .lt 18, 3), (.aload_n 0, 1), (.getfield 54, 3), (.iload 4, 2), (.iaload, 1), (.aload_n 0, 1), (.getfield 228, 3), (.if_icmp .lt 4, 3), (.return_, 1)]
  | 134 => [(.aload_n 0, 1), (.iload 4, 2), (.sipush 256, 3), (.idiv, 1), (.invokevirtual 237, 3), (.istore 5, 2), (.iconst 0, 1), (.istore 6, 2)]
  | 149 => [(.iload 6, 2), (.bipush 15, 2), (.if_icmp .ge 40, 3), (.aload_n 0, 1), (.iload_n 1, 1), (.aload_n 0, 1), (.iload_n 1, 1), (.iload 4, 2), (.iload 5, 2), (.iload 6, 2), (.iconst 5, 1), (.idiv, 1), (.iload 6, 2), (.iconst 5, 1), (.irem, 1), (.invokevirtual 240, 3), (.aload_n 0, 1), (.getfield 54, 3), (.iload 4, 2), (.iaload, 1), (.iconst 1, 1), (.iadd, 1), (.invokevirtual 234, 3), (.iinc 6 1, 3), (.goto (-41), 3)]
  | 193 => [(.iinc 3 1, 3), (.goto (-100), 3)]
  | 199 => [(.return_, 1)]
  | _ => []
def uX10_searches : Nat → Option (List Bool)
  | 11 => some [true, true, true, true, false, false, false]
  | 31 => some [true, true, true, false, false, false, false]
  | 96 => some [true, true, false, true, false, false, false]
  | 149 => some [true, true, false, true, true, true, true]
  | _ => none
def aX10_searches : pvCa
  | 197 => some (1, false, 9, 0, C_X10_laysLeads)
  | 234 => some (4, false, 9, 0, C_X10_comes)
  | 237 => some (2, false, 9, 0, C_X10_valueOf)
  | 240 => some (6, false, 9, 0, C_X10_follows)
  | _ => none
theorem bX10_searches_0 : bX10_searches 0 = [(.aload_n 0, 1), (.iload_n 2, 1), (.putfield 222, 3), (.aload_n 0, 1), (.invokevirtual 197, 3), (.iconst 0, 1), (.istore_n 3, 1)] := rfl
theorem uX10_searches_0 : uX10_searches 0 = none := rfl
theorem bX10_searches_11 : bX10_searches 11 = [(.iload_n 3, 1), (.sipush 23552, 3), (.if_icmp .ge 16, 3), (.aload_n 0, 1), (.getfield 54, 3), (.iload_n 3, 1), (.iconst (-1), 1), (.iastore, 1), (.iinc 3 1, 3), (.goto (-17), 3)] := rfl
theorem uX10_searches_11 : uX10_searches 11 = some [true, true, true, true, false, false, false] := rfl
theorem bX10_searches_31 : bX10_searches 31 = [(.aload_n 0, 1), (.iconst 0, 1), (.putfield 225, 3), (.aload_n 0, 1), (.iconst (-1), 1), (.putfield 228, 3), (.aload_n 0, 1), (.iload_n 1, 1), (.sipush 256, 3), (.aload_n 0, 1), (.getfield 51, 3), (.sipush 215, 3), (.iaload, 1), (.imul, 1), (.bipush 16, 2), (.aload_n 0, 1), (.getfield 7, 3), (.sipush 163, 3), (.iload_n 1, 1), (.imul, 1), (.iaload, 1), (.imul, 1), (.iadd, 1), (.iload_n 2, 1), (.ifCond .eq 18, 3), (.aload_n 0, 1), (.getfield 7, 3), (.sipush 163, 3), (.iconst 1, 1), (.iload_n 1, 1), (.isub, 1), (.imul, 1), (.iaload, 1), (.goto 4, 3)] := rfl
theorem uX10_searches_31 : uX10_searches 31 = some [true, true, true, false, false, false, false] := rfl
theorem bX10_searches_88 : bX10_searches 88 = [(.iconst 0, 1)] := rfl
theorem uX10_searches_88 : uX10_searches 88 = none := rfl
theorem bX10_searches_89 : bX10_searches 89 = [(.iadd, 1), (.iconst 0, 1), (.invokevirtual 234, 3), (.iconst 0, 1), (.istore_n 3, 1)] := rfl
theorem uX10_searches_89 : uX10_searches 89 = none := rfl
theorem bX10_searches_96 : bX10_searches 96 = [(.iload_n 3, 1), (.aload_n 0, 1), (.getfield 225, 3), (.if_icmp .ge 98, 3), (.aload_n 0, 1), (.getfield 60, 3), (.iload_n 3, 1), (.iaload, 1), (.istore 4, 2), (.aload_n 0, 1), (.getfield 228, 3), (.ifCond .lt 18, 3), (.aload_n 0, 1), (.getfield 54, 3), (.iload 4, 2), (.iaload, 1), (.aload_n 0, 1), (.getfield 228, 3), (.if_icmp .lt 4, 3), (.return_, 1)] := rfl
theorem uX10_searches_96 : uX10_searches 96 = some [true, true, false, true, false, false, false] := rfl
theorem bX10_searches_134 : bX10_searches 134 = [(.aload_n 0, 1), (.iload 4, 2), (.sipush 256, 3), (.idiv, 1), (.invokevirtual 237, 3), (.istore 5, 2), (.iconst 0, 1), (.istore 6, 2)] := rfl
theorem uX10_searches_134 : uX10_searches 134 = none := rfl
theorem bX10_searches_149 : bX10_searches 149 = [(.iload 6, 2), (.bipush 15, 2), (.if_icmp .ge 40, 3), (.aload_n 0, 1), (.iload_n 1, 1), (.aload_n 0, 1), (.iload_n 1, 1), (.iload 4, 2), (.iload 5, 2), (.iload 6, 2), (.iconst 5, 1), (.idiv, 1), (.iload 6, 2), (.iconst 5, 1), (.irem, 1), (.invokevirtual 240, 3), (.aload_n 0, 1), (.getfield 54, 3), (.iload 4, 2), (.iaload, 1), (.iconst 1, 1), (.iadd, 1), (.invokevirtual 234, 3), (.iinc 6 1, 3), (.goto (-41), 3)] := rfl
theorem uX10_searches_149 : uX10_searches 149 = some [true, true, false, true, true, true, true] := rfl
theorem bX10_searches_193 : bX10_searches 193 = [(.iinc 3 1, 3), (.goto (-100), 3)] := rfl
theorem uX10_searches_193 : uX10_searches 193 = none := rfl
theorem bX10_searches_199 : bX10_searches 199 = [(.return_, 1)] := rfl
theorem uX10_searches_199 : uX10_searches 199 = none := rfl
theorem aX10_searches_197 : aX10_searches 197 = some (1, false, 9, 0, C_X10_laysLeads) := rfl
theorem aX10_searches_234 : aX10_searches 234 = some (4, false, 9, 0, C_X10_comes) := rfl
theorem aX10_searches_237 : aX10_searches 237 = some (2, false, 9, 0, C_X10_valueOf) := rfl
theorem aX10_searches_240 : aX10_searches 240 = some (6, false, 9, 0, C_X10_follows) := rfl
def mX10_searches : Room := { frames := 3, cells := 1, slots := 6, locals := 71 }
set_option maxRecDepth 100000 in
set_option maxHeartbeats 4000000 in
theorem okX10_searches : pvOkM fX10 aX10_searches kX10 eX10 none bX10_searches uX10_searches 7 C_X10_searches := by
  intro Q SW hc as z h hS hz
  unfold C_X10_searches at h
  split at h
  · rename_i id s pr
    obtain ⟨rfl, ⟨hs, hpr, hws, hsm⟩, h2⟩ := h
    refine ⟨Nat.le_of_ble_eq_true rfl, ?_⟩
    obtain ⟨A, eA⟩ : ∃ A, A = autR (z.1 40) s := ⟨_, rfl⟩
    obtain ⟨B, eB⟩ : ∃ B, B = (if pr = 0 then emA else autR (z.1 40) (1 - s)) := ⟨_, rfl⟩
    have wA : WfA A := by rw [eA]; exact hws s hs
    have wB : WfA B := by rw [eB]; split; exact emA_w; exact hws _ (by omega)
    have fin : ∀ (z' : pvM) (Qs : List Int), frF [39, 48, 53, 55] [] z z' → (∀ j, j ≠ 26 → j ≠ 27 → j ≠ 28 → z'.1 39 j = z.1 39 j) → srP z' s A B → rqF A B z' Qs → fnF A B Qs (z'.1 39 27) → (∀ j, j < Qs.length → lvN A B (ndF Qs j) ≤ j) →
        ∀ i, soF A B Qs i → (i < Qs.length → 0 ≤ z'.1 39 27 ∧ z'.1 39 27 ≤ lvN A B (ndF Qs i)) → Q (.inl none) z' := by
      intro z' Qs f1 k1 sr rq fn bd i so hend
      refine h2 z' Qs A B f1 k1 sr eA eB ⟨rq, so.2.1, so.1, ?_⟩
      have hl5 := rq_len rq
      have hrc := fun n hn => so_rc so (fun c hc => (rq.2.2.2.2 c hc).2) n hn
      rcases fn with ⟨e, hn⟩ | ⟨h0, ⟨c1, a1, a2, a3⟩, hle⟩
      · refine Or.inl ⟨e, fun ⟨F, hF⟩ => ?_⟩
        obtain ⟨c, c1, c2⟩ := hF.1
        exact hn c (hrc F (fun hi => by have := hend hi; omega) c c1) c2
      · have hl1 := (rq.2.2.2.2 c1 a1).2
        have hall : ∀ n, n ≤ (z'.1 39 27).toNat → ∀ c, rcK A B n c → c ∈ Qs := fun n hn => hrc n (fun hi => by have := hend hi; omega)
        refine Or.inr ⟨(z'.1 39 27).toNat, by omega, ⟨⟨c1, ?_, a2⟩, fun n hn c hr hg => ?_⟩, ?_, hall⟩
        · rw [show (z'.1 39 27).toNat = lvN A B c1 by omega]; exact hl1.1
        · have hm := hall n (by omega) c hr
          have h9 := hle c hm hg
          have h8 := (rq.2.2.2.2 c hm).2
          have h7 : lvN A B c ≤ n := by
            by_cases e : lvN A B c ≤ n
            · exact e
            · exact absurd hr (h8.2 n (by omega))
          omega
        · obtain ⟨x1, x2⟩ := ixN_lt a1
          have := bd _ x1
          rw [x2] at this
          omega
    have outer : ∀ (m i : Nat) (z' : pvM) (Qs : List Int), i + m = 23552 → frF [39, 48, 53, 55] [] z z' → (∀ j, j ≠ 26 → j ≠ 27 → j ≠ 28 → z'.1 39 j = z.1 39 j) → srP z' s A B → rqF A B z' Qs → fnF A B Qs (z'.1 39 27) → (∀ j, j < Qs.length → lvN A B (ndF Qs j) ≤ j) → soF A B Qs i → (i < Qs.length → ∀ j, j < Qs.length → lvN A B (ndF Qs j) ≤ lvN A B (ndF Qs i) + 1) →
        SW 96 [some (vR 39), some (vI s), none, some (vI (i : Int)), none, none, none] z' := by
      intro m
      induction m using Nat.strongRecOn with
      | _ m ih =>
        intro i z' Qs him f1 k1 sr rq fn bd so mx
        have hl5 := rq_len rq
        have e26 := rq.1
        have hf27 : -1 ≤ z'.1 39 27 := by rcases fn with ⟨e, _⟩ | ⟨e, _⟩ <;> omega
        by_cases hil : i < Qs.length
        · have ei := rq.2.1 i hil
          have hmi := ndF_m hil
          obtain ⟨hoki, hlvi⟩ := rq.2.2.2.2 _ hmi
          have hnr := nc_r hoki
          have edist := rq.2.2.1 _ hoki
          rw [if_pos hmi] at edist
          have hbdi := bd i hil
          have inner : ∀ (mk k : Nat) (z' : pvM) (Qs' : List Int), k + mk = 15 → frF [39, 48, 53, 55] [] z z' → (∀ j, j ≠ 26 → j ≠ 27 → j ≠ 28 → z'.1 39 j = z.1 39 j) → srP z' s A B → rqF A B z' Qs' → fnF A B Qs' (z'.1 39 27) → (∀ j, j < Qs'.length → lvN A B (ndF Qs' j) ≤ j) → soF A B Qs' i → (∀ j, j < Qs'.length → lvN A B (ndF Qs' j) ≤ lvN A B (ndF Qs i) + 1) → (∃ M, Qs' = Qs ++ M) →
              (∀ k', k' < k → stF1 A B (ndF Qs i) ((k' / 5 : Nat) : Int) ((k' % 5 : Nat) : Int) ≠ -1 → stF1 A B (ndF Qs i) ((k' / 5 : Nat) : Int) ((k' % 5 : Nat) : Int) ∈ Qs') →
              SW 149 [some (vR 39), some (vI s), none, some (vI (i : Int)), some (vI (ndC (ndF Qs i))), some (vI (ndF Qs i / 256)), some (vI (k : Int))] z' := by
            intro mk
            induction mk using Nat.strongRecOn with
            | _ mk ihk =>
              intro k z' Qs' hk f1 k1 sr rq fn bd so mx hM hcl
              obtain ⟨M, eM⟩ := hM
              have hl' : Qs.length ≤ Qs'.length := by rw [eM, List.length_append]; omega
              have eni : ndF Qs' i = ndF Qs i := by rw [eM, ndF_a hil]
              have hl5' := rq_len rq
              by_cases hk15 : 15 ≤ k
              · have so' : soF A B Qs' (i + 1) := ⟨so.1, so.2.1, fun j hj hjl a d ha hd hne => by
                  by_cases ej : j = i
                  · subst ej
                    rw [eni] at hne ⊢
                    have := hcl (5 * a.toNat + d.toNat) (by omega)
                    rw [show (5 * a.toNat + d.toNat) / 5 = a.toNat by omega, show (5 * a.toNat + d.toNat) % 5 = d.toNat by omega, show ((a.toNat : Nat) : Int) = a by omega, show ((d.toNat : Nat) : Int) = d by omega] at this
                    exact this hne
                  · exact so.2.2 j (by omega) hjl a d ha hd hne⟩
                have q9 := ih (m - 1) (by omega) (i + 1) z' Qs' (by omega) f1 k1 sr rq fn bd so' (fun hi' j hj => by
                  have h8 := mx j hj
                  have h7 := so.1 i (i + 1) (by omega) hi'
                  rw [eni] at h7
                  omega)
                refine hc 20 _ _ _ fun _ _ => ?_
                simp only [pvSt1]
                simp only [pvE_aload_n0, pvLA_s, pvLd, pvE_iload_n2, pvLI_s, pvE_putfield, pvPf_0, pvPf_1, fX10_222, pvSh_0, pvSh_1, pvSh_2, pvSh_3, pvSh_4, pvSh_5, pvSh_6, pvSh_7, pvSh_8, pvSh_9, pvSh_10, pvSh_11, pvSh_12, pvSh_13, pvSh_14, pvSh_15, pvSh_16, pvSh_17, pvSh_18, pvSh_19, pvSh_20, pvSh_21, pvSh_22, pvSh_23, pvSh_24, pvSh_25, pvSh_26, pvSh_27, pvSh_28, pvSh_29, pvSh_30, pvSh_31, pvSh_32, pvSh_33, pvSh_34, pvSh_35, pvSh_36, pvSh_37, pvSh_38, pvSh_39, pvSh_40, pvSh_41, pvSh_42, pvSh_43, pvSh_44, pvSh_45, pvSh_46, pvSh_47, pvSh_48, pvSh_49, pvSh_50, pvSh_51, pvSh_52, pvSh_53, pvSh_54, pvSh_55, pvSh_56, pvSh_57, pvSh_58, pvSh_59, pvE_invokevirtual, pvC1_s, pvC2_s, pvAf_v, pvAf_x, pvPop, pvCs, pvCat, pvPush, aX10_searches_197, pvE_iconst, pvE_istore_n3, pvS1, List.length_cons, List.length_nil, pvClr_i, pvClr_r, pvClr_l, pvClr_d, pvClr_f, pvClr_n, pvE_iload_n3, pvE_sipush, pvE_icmp_ge, pvE_getfield, pvGf_0, pvGf_1, pvGf_2, fX10_54, pvRf_0_0, pvRf_0_1, pvRf_0_2, pvRf_0_3, pvRf_0_4, pvRf_0_5, pvRf_0_6, pvRf_0_7, pvRf_0_8, pvRf_0_9, pvRf_0_10, pvRf_1_0, pvRf_3_0, pvRf_5_0, pvRf_5_1, pvRf_5_2, pvRf_9_0, pvRf_9_1, pvRf_9_2, pvRf_13_0, pvRf_13_1, pvRf_13_2, pvRf_17_0, pvRf_17_2, pvRf_20_0, pvRf_20_1, pvRf_20_2, pvRf_24_0, pvRf_24_1, pvRf_24_2, pvRf_28_0, pvRf_28_1, pvRf_28_2, pvRf_28_3, pvRf_33_0, pvRf_33_1, pvRf_36_0, pvRf_36_1, pvRf_39_0, pvRf_39_1, pvRf_39_2, pvRf_39_5, pvRf_39_6, pvRf_39_9, pvRf_39_13, pvRf_39_15, pvRf_39_16, pvRf_39_17, pvRf_39_19, pvRf_39_20, pvRf_39_22, pvRf_39_23, pvRf_39_24, pvRf_39_25, pvRf_39_29, pvRf_39_30, pvE_iastore, pvAI, pvE_iinc, pvIc_s, pvE_goto, fX10_225, fX10_228, pvE_iload_n1, fX10_51, pvE_iaload, pvE_imul, pvE_bipush, fX10_7, pvE_iadd, pvE_if_eq, pvE_isub, aX10_searches_234, fX10_60, pvE_istore, pvE_if_lt, pvE_iload, pvE_icmp_lt, pvE_return, pvE_idiv, aX10_searches_237, pvE_irem, aX10_searches_240, bX10_searches_0, uX10_searches_0, bX10_searches_11, uX10_searches_11, bX10_searches_31, uX10_searches_31, bX10_searches_88, uX10_searches_88, bX10_searches_89, uX10_searches_89, bX10_searches_96, uX10_searches_96, bX10_searches_134, uX10_searches_134, bX10_searches_149, uX10_searches_149, bX10_searches_193, uX10_searches_193, bX10_searches_199, uX10_searches_199, pvMk_t, pvMk_f, pvMk_n, pvRecv_r, pvUp_nl, pvUp_same, pvUp_ap, pvSt_ap, pvX_c, pvX_ms, pvX_mn, pvE_nil, pvEn_i, pvEn_r, pvEn_l, pvEn_0, pvEn_s, pvRt, pvRv, pvTh, pvKc, pvGo, pvTgt, Int.toNat_natCast, false_and, and_false, true_and, and_true, if_true, if_false, reduceIte, reduceCtorEq, forall_const, false_or, or_false, true_or, or_true, ne_eq, not_true_eq_false, not_false_eq_true, implies_true, false_implies, Nat.reduceAdd, Nat.reduceSub, Nat.reduceMul, Nat.reduceEqDiff, Nat.reduceLT, Nat.reduceLeDiff, Int.reduceAdd, Int.reduceSub, Int.reduceMul, Int.reduceNeg, Int.reduceToNat, Int.reduceLE, Int.reduceLT, Int.reduceEq, Int.reduceNe, and_self]
                (repeat' first | with_reducible apply And.intro | with_reducible intro _)
                all_goals first
                  | omega
                  | exact q9
              · have edist' := rq.2.2.1 _ hoki
                rw [if_pos (by rw [eM]; exact List.mem_append_left _ hmi)] at edist'
                obtain ⟨x, ex⟩ : ∃ x, stF1 A B (ndF Qs i) ((k / 5 : Nat) : Int) ((k % 5 : Nat) : Int) = x := ⟨_, rfl⟩
                have hst := st_r wA wB hoki (a := ((k / 5 : Nat) : Int)) (d := ((k % 5 : Nat) : Int)) (by omega) (by omega)
                rw [ex] at hst
                have exi : stF1 A B (ndF Qs i) ((k : Int) / 5) ((k : Int) % 5) = x := by
                  rw [← ex, Int.natCast_ediv, Int.natCast_emod]
                  rfl
                have hnew : x ∉ Qs' → x ≠ -1 → lqF A B (lvN A B (ndF Qs i) + 1) x := by
                  intro hn hne
                  have hokx : okQ x := hst.elim (fun h => absurd h hne) (fun h => h)
                  refine ⟨⟨_, _, _, hlvi.1, by omega, by omega, ex, hokx.1⟩, fun m' hm' hr => hn ?_⟩
                  exact so_rc so (fun c hc => (rq.2.2.2.2 c hc).2) m' (fun _ => by rw [eni]; omega) x hr
                have nxt : ∀ (z2 : pvM) (Q2 : List Int), frF [39, 53, 55] [] z' z2 → (∀ j, j ≠ 26 → j ≠ 27 → z2.1 39 j = z'.1 39 j) → rqF A B z2 Q2 → fnF A B Q2 (z2.1 39 27) → (∀ j, j < Q2.length → lvN A B (ndF Q2 j) ≤ j) → soF A B Q2 i → (∀ j, j < Q2.length → lvN A B (ndF Q2 j) ≤ lvN A B (ndF Qs i) + 1) → (∃ M, Q2 = Qs' ++ M) → (x ≠ -1 → x ∈ Q2) →
                    SW 149 [some (vR 39), some (vI s), none, some (vI (i : Int)), some (vI (ndC (ndF Qs i))), some (vI (ndF Qs i / 256)), some (vI ((k : Int) + 1))] z2 := by
                  intro z2 Q2 f2 k2 rq2 fn2 bd2 so2 mx2 hM2 hx2
                  obtain ⟨M2, eM2⟩ := hM2
                  exact ihk (mk - 1) (by omega) (k + 1) z2 Q2 (by omega) (frF_t f1 f2 (by decide) (by decide)) (fun j h1 h2 h3 => by rw [k2 j h1 h2, k1 j h1 h2 h3]) (srP_m sr f2 (by simp) (k2 28 (by decide) (by decide))) rq2 fn2 bd2 so2 mx2 ⟨M ++ M2, by rw [eM2, eM, List.append_assoc]⟩ (fun k' hk' hne => by
                    by_cases ek : k' = k
                    · subst ek
                      rw [ex] at hne ⊢
                      exact hx2 hne
                    · rw [eM2]
                      exact List.mem_append_left _ (hcl k' (by omega) hne))
                refine hc 20 _ _ _ fun _ _ => ?_
                simp only [pvSt1]
                simp only [C_X10_follows, C_X10_comes, edist', pvE_aload_n0, pvLA_s, pvLd, pvE_iload_n2, pvLI_s, pvE_putfield, pvPf_0, pvPf_1, fX10_222, pvSh_0, pvSh_1, pvSh_2, pvSh_3, pvSh_4, pvSh_5, pvSh_6, pvSh_7, pvSh_8, pvSh_9, pvSh_10, pvSh_11, pvSh_12, pvSh_13, pvSh_14, pvSh_15, pvSh_16, pvSh_17, pvSh_18, pvSh_19, pvSh_20, pvSh_21, pvSh_22, pvSh_23, pvSh_24, pvSh_25, pvSh_26, pvSh_27, pvSh_28, pvSh_29, pvSh_30, pvSh_31, pvSh_32, pvSh_33, pvSh_34, pvSh_35, pvSh_36, pvSh_37, pvSh_38, pvSh_39, pvSh_40, pvSh_41, pvSh_42, pvSh_43, pvSh_44, pvSh_45, pvSh_46, pvSh_47, pvSh_48, pvSh_49, pvSh_50, pvSh_51, pvSh_52, pvSh_53, pvSh_54, pvSh_55, pvSh_56, pvSh_57, pvSh_58, pvSh_59, pvE_invokevirtual, pvC1_s, pvC2_s, pvAf_v, pvAf_x, pvPop, pvCs, pvCat, pvPush, aX10_searches_197, pvE_iconst, pvE_istore_n3, pvS1, List.length_cons, List.length_nil, pvClr_i, pvClr_r, pvClr_l, pvClr_d, pvClr_f, pvClr_n, pvE_iload_n3, pvE_sipush, pvE_icmp_ge, pvE_getfield, pvGf_0, pvGf_1, pvGf_2, fX10_54, pvRf_0_0, pvRf_0_1, pvRf_0_2, pvRf_0_3, pvRf_0_4, pvRf_0_5, pvRf_0_6, pvRf_0_7, pvRf_0_8, pvRf_0_9, pvRf_0_10, pvRf_1_0, pvRf_3_0, pvRf_5_0, pvRf_5_1, pvRf_5_2, pvRf_9_0, pvRf_9_1, pvRf_9_2, pvRf_13_0, pvRf_13_1, pvRf_13_2, pvRf_17_0, pvRf_17_2, pvRf_20_0, pvRf_20_1, pvRf_20_2, pvRf_24_0, pvRf_24_1, pvRf_24_2, pvRf_28_0, pvRf_28_1, pvRf_28_2, pvRf_28_3, pvRf_33_0, pvRf_33_1, pvRf_36_0, pvRf_36_1, pvRf_39_0, pvRf_39_1, pvRf_39_2, pvRf_39_5, pvRf_39_6, pvRf_39_9, pvRf_39_13, pvRf_39_15, pvRf_39_16, pvRf_39_17, pvRf_39_19, pvRf_39_20, pvRf_39_22, pvRf_39_23, pvRf_39_24, pvRf_39_25, pvRf_39_29, pvRf_39_30, pvE_iastore, pvAI, pvE_iinc, pvIc_s, pvE_goto, fX10_225, fX10_228, pvE_iload_n1, fX10_51, pvE_iaload, pvE_imul, pvE_bipush, fX10_7, pvE_iadd, pvE_if_eq, pvE_isub, aX10_searches_234, fX10_60, pvE_istore, pvE_if_lt, pvE_iload, pvE_icmp_lt, pvE_return, pvE_idiv, aX10_searches_237, pvE_irem, aX10_searches_240, bX10_searches_0, uX10_searches_0, bX10_searches_11, uX10_searches_11, bX10_searches_31, uX10_searches_31, bX10_searches_88, uX10_searches_88, bX10_searches_89, uX10_searches_89, bX10_searches_96, uX10_searches_96, bX10_searches_134, uX10_searches_134, bX10_searches_149, uX10_searches_149, bX10_searches_193, uX10_searches_193, bX10_searches_199, uX10_searches_199, pvMk_t, pvMk_f, pvMk_n, pvRecv_r, pvUp_nl, pvUp_same, pvUp_ap, pvSt_ap, pvX_c, pvX_ms, pvX_mn, pvE_nil, pvEn_i, pvEn_r, pvEn_l, pvEn_0, pvEn_s, pvRt, pvRv, pvTh, pvKc, pvGo, pvTgt, Int.toNat_natCast, false_and, and_false, true_and, and_true, if_true, if_false, reduceIte, reduceCtorEq, forall_const, false_or, or_false, true_or, or_true, ne_eq, not_true_eq_false, not_false_eq_true, implies_true, false_implies, Nat.reduceAdd, Nat.reduceSub, Nat.reduceMul, Nat.reduceEqDiff, Nat.reduceLT, Nat.reduceLeDiff, Int.reduceAdd, Int.reduceSub, Int.reduceMul, Int.reduceNeg, Int.reduceToNat, Int.reduceLE, Int.reduceLT, Int.reduceEq, Int.reduceNe, and_self]
                (repeat' first | with_reducible apply And.intro | with_reducible intro _)
                all_goals first
                  | omega
                  | skip
                all_goals
                  refine ⟨A, B, ndF Qs i, ⟨sr, hoki, rfl, rfl, by omega, by omega⟩, ?_⟩
                  rw [exi]
                  (repeat' first | with_reducible apply And.intro | with_reducible intro _)
                  all_goals first
                    | omega
                    | skip
                  all_goals
                    refine ⟨A, B, Qs', x, ⟨sr, rq, rfl, hst, fun hn hne => ⟨?_, by omega⟩⟩, fun hin => ?_, fun hne hn z2 f2 k2 rq2 g1 g2 => ?_⟩
                    · rw [show (((lvN A B (ndF Qs i) : Nat) : Int) + 1).toNat = lvN A B (ndF Qs i) + 1 by omega]
                      exact hnew hn hne
                    · have q9 := nxt z' Qs' frF_0 (fun _ _ _ => rfl) rq fn bd so mx ⟨[], (List.append_nil _).symm⟩ (fun hne => hin.elim (fun h => absurd h hne) id)
                      first
                        | exact q9
                        | exact ⟨by omega, q9⟩
                    · have hlx := lvN_eq (hnew hn hne)
                      have q9 := nxt z2 (Qs' ++ [x]) f2 k2 rq2 (fn_s fn (fun y hy => by
                        obtain ⟨y1, y2⟩ := ixN_lt hy
                        have := mx _ y1
                        rw [y2] at this
                        omega) (fun h => by rw [g1 h]; omega) (fun h => g2 h)) (fun j hj => by
                        rw [List.length_append, List.length_singleton] at hj
                        by_cases ej : j = Qs'.length
                        · subst ej; rw [ndF_b, hlx]; omega
                        · rw [ndF_a (by omega)]; exact bd j (by omega)) ⟨fun j j' hjj hj' => by
                        rw [List.length_append, List.length_singleton] at hj'
                        by_cases ej : j' = Qs'.length
                        · subst ej
                          rw [ndF_b, hlx]
                          by_cases ej2 : j = Qs'.length
                          · subst ej2; rw [ndF_b, hlx]; exact Nat.le_refl _
                          · rw [ndF_a (by omega)]; exact mx j (by omega)
                        · rw [ndF_a (show j < Qs'.length by omega), ndF_a (show j' < Qs'.length by omega)]; exact so.1 j j' hjj (by omega), ⟨by simp, by rw [ndF_a so.2.1.1]; exact so.2.1.2⟩, fun j hj hjl a d ha hd hne' => by
                        have hjl' : j < Qs'.length := by omega
                        rw [ndF_a hjl'] at hne' ⊢
                        exact List.mem_append_left _ (so.2.2 j hj hjl' a d ha hd hne')⟩ (fun j hj => by
                        rw [List.length_append, List.length_singleton] at hj
                        by_cases ej : j = Qs'.length
                        · subst ej; rw [ndF_b, hlx]; exact Nat.le_refl _
                        · rw [ndF_a (by omega)]; exact mx j (by omega)) ⟨[x], rfl⟩ (fun _ => by simp)
                      first
                        | exact q9
                        | exact ⟨by omega, q9⟩
          have q8 := inner 15 0 z' Qs (by omega) f1 k1 sr rq fn bd so (mx hil) ⟨[], (List.append_nil _).symm⟩ (fun k' hk' => absurd hk' (Nat.not_lt_zero _))
          refine hc 20 _ _ _ fun _ _ => ?_
          simp only [pvSt1]
          simp only [C_X10_valueOf, e26, ei, edist, pvE_aload_n0, pvLA_s, pvLd, pvE_iload_n2, pvLI_s, pvE_putfield, pvPf_0, pvPf_1, fX10_222, pvSh_0, pvSh_1, pvSh_2, pvSh_3, pvSh_4, pvSh_5, pvSh_6, pvSh_7, pvSh_8, pvSh_9, pvSh_10, pvSh_11, pvSh_12, pvSh_13, pvSh_14, pvSh_15, pvSh_16, pvSh_17, pvSh_18, pvSh_19, pvSh_20, pvSh_21, pvSh_22, pvSh_23, pvSh_24, pvSh_25, pvSh_26, pvSh_27, pvSh_28, pvSh_29, pvSh_30, pvSh_31, pvSh_32, pvSh_33, pvSh_34, pvSh_35, pvSh_36, pvSh_37, pvSh_38, pvSh_39, pvSh_40, pvSh_41, pvSh_42, pvSh_43, pvSh_44, pvSh_45, pvSh_46, pvSh_47, pvSh_48, pvSh_49, pvSh_50, pvSh_51, pvSh_52, pvSh_53, pvSh_54, pvSh_55, pvSh_56, pvSh_57, pvSh_58, pvSh_59, pvE_invokevirtual, pvC1_s, pvC2_s, pvAf_v, pvAf_x, pvPop, pvCs, pvCat, pvPush, aX10_searches_197, pvE_iconst, pvE_istore_n3, pvS1, List.length_cons, List.length_nil, pvClr_i, pvClr_r, pvClr_l, pvClr_d, pvClr_f, pvClr_n, pvE_iload_n3, pvE_sipush, pvE_icmp_ge, pvE_getfield, pvGf_0, pvGf_1, pvGf_2, fX10_54, pvRf_0_0, pvRf_0_1, pvRf_0_2, pvRf_0_3, pvRf_0_4, pvRf_0_5, pvRf_0_6, pvRf_0_7, pvRf_0_8, pvRf_0_9, pvRf_0_10, pvRf_1_0, pvRf_3_0, pvRf_5_0, pvRf_5_1, pvRf_5_2, pvRf_9_0, pvRf_9_1, pvRf_9_2, pvRf_13_0, pvRf_13_1, pvRf_13_2, pvRf_17_0, pvRf_17_2, pvRf_20_0, pvRf_20_1, pvRf_20_2, pvRf_24_0, pvRf_24_1, pvRf_24_2, pvRf_28_0, pvRf_28_1, pvRf_28_2, pvRf_28_3, pvRf_33_0, pvRf_33_1, pvRf_36_0, pvRf_36_1, pvRf_39_0, pvRf_39_1, pvRf_39_2, pvRf_39_5, pvRf_39_6, pvRf_39_9, pvRf_39_13, pvRf_39_15, pvRf_39_16, pvRf_39_17, pvRf_39_19, pvRf_39_20, pvRf_39_22, pvRf_39_23, pvRf_39_24, pvRf_39_25, pvRf_39_29, pvRf_39_30, pvE_iastore, pvAI, pvE_iinc, pvIc_s, pvE_goto, fX10_225, fX10_228, pvE_iload_n1, fX10_51, pvE_iaload, pvE_imul, pvE_bipush, fX10_7, pvE_iadd, pvE_if_eq, pvE_isub, aX10_searches_234, fX10_60, pvE_istore, pvE_if_lt, pvE_iload, pvE_icmp_lt, pvE_return, pvE_idiv, aX10_searches_237, pvE_irem, aX10_searches_240, bX10_searches_0, uX10_searches_0, bX10_searches_11, uX10_searches_11, bX10_searches_31, uX10_searches_31, bX10_searches_88, uX10_searches_88, bX10_searches_89, uX10_searches_89, bX10_searches_96, uX10_searches_96, bX10_searches_134, uX10_searches_134, bX10_searches_149, uX10_searches_149, bX10_searches_193, uX10_searches_193, bX10_searches_199, uX10_searches_199, pvMk_t, pvMk_f, pvMk_n, pvRecv_r, pvUp_nl, pvUp_same, pvUp_ap, pvSt_ap, pvX_c, pvX_ms, pvX_mn, pvE_nil, pvEn_i, pvEn_r, pvEn_l, pvEn_0, pvEn_s, pvRt, pvRv, pvTh, pvKc, pvGo, pvTgt, Int.toNat_natCast, false_and, and_false, true_and, and_true, if_true, if_false, reduceIte, reduceCtorEq, forall_const, false_or, or_false, true_or, or_true, ne_eq, not_true_eq_false, not_false_eq_true, implies_true, false_implies, Nat.reduceAdd, Nat.reduceSub, Nat.reduceMul, Nat.reduceEqDiff, Nat.reduceLT, Nat.reduceLeDiff, Int.reduceAdd, Int.reduceSub, Int.reduceMul, Int.reduceNeg, Int.reduceToNat, Int.reduceLE, Int.reduceLT, Int.reduceEq, Int.reduceNe, and_self]
          by_cases hend : 0 ≤ z'.1 39 27 ∧ z'.1 39 27 ≤ lvN A B (ndF Qs i)
          · have q9 := fin z' Qs f1 k1 sr rq fn bd i so (fun _ => hend)
            (repeat' first | with_reducible apply And.intro | with_reducible intro _)
            all_goals first
              | omega
              | contradiction
              | exact q9
              | (exfalso; omega)
          · (repeat' first | with_reducible apply And.intro | with_reducible intro _)
            all_goals first
              | omega
              | contradiction
              | (exfalso; omega)
              | skip
            all_goals
              refine ⟨ndF Qs i, ⟨sr.2.2.2.2.1, hoki, rfl⟩, ?_⟩
              (repeat' first | with_reducible apply And.intro | with_reducible intro _)
              all_goals first
                | omega
                | exact q8
        · have q9 := fin z' Qs f1 k1 sr rq fn bd i so (fun h => absurd h hil)
          refine hc 20 _ _ _ fun _ _ => ?_
          simp only [pvSt1]
          simp only [e26, pvE_aload_n0, pvLA_s, pvLd, pvE_iload_n2, pvLI_s, pvE_putfield, pvPf_0, pvPf_1, fX10_222, pvSh_0, pvSh_1, pvSh_2, pvSh_3, pvSh_4, pvSh_5, pvSh_6, pvSh_7, pvSh_8, pvSh_9, pvSh_10, pvSh_11, pvSh_12, pvSh_13, pvSh_14, pvSh_15, pvSh_16, pvSh_17, pvSh_18, pvSh_19, pvSh_20, pvSh_21, pvSh_22, pvSh_23, pvSh_24, pvSh_25, pvSh_26, pvSh_27, pvSh_28, pvSh_29, pvSh_30, pvSh_31, pvSh_32, pvSh_33, pvSh_34, pvSh_35, pvSh_36, pvSh_37, pvSh_38, pvSh_39, pvSh_40, pvSh_41, pvSh_42, pvSh_43, pvSh_44, pvSh_45, pvSh_46, pvSh_47, pvSh_48, pvSh_49, pvSh_50, pvSh_51, pvSh_52, pvSh_53, pvSh_54, pvSh_55, pvSh_56, pvSh_57, pvSh_58, pvSh_59, pvE_invokevirtual, pvC1_s, pvC2_s, pvAf_v, pvAf_x, pvPop, pvCs, pvCat, pvPush, aX10_searches_197, pvE_iconst, pvE_istore_n3, pvS1, List.length_cons, List.length_nil, pvClr_i, pvClr_r, pvClr_l, pvClr_d, pvClr_f, pvClr_n, pvE_iload_n3, pvE_sipush, pvE_icmp_ge, pvE_getfield, pvGf_0, pvGf_1, pvGf_2, fX10_54, pvRf_0_0, pvRf_0_1, pvRf_0_2, pvRf_0_3, pvRf_0_4, pvRf_0_5, pvRf_0_6, pvRf_0_7, pvRf_0_8, pvRf_0_9, pvRf_0_10, pvRf_1_0, pvRf_3_0, pvRf_5_0, pvRf_5_1, pvRf_5_2, pvRf_9_0, pvRf_9_1, pvRf_9_2, pvRf_13_0, pvRf_13_1, pvRf_13_2, pvRf_17_0, pvRf_17_2, pvRf_20_0, pvRf_20_1, pvRf_20_2, pvRf_24_0, pvRf_24_1, pvRf_24_2, pvRf_28_0, pvRf_28_1, pvRf_28_2, pvRf_28_3, pvRf_33_0, pvRf_33_1, pvRf_36_0, pvRf_36_1, pvRf_39_0, pvRf_39_1, pvRf_39_2, pvRf_39_5, pvRf_39_6, pvRf_39_9, pvRf_39_13, pvRf_39_15, pvRf_39_16, pvRf_39_17, pvRf_39_19, pvRf_39_20, pvRf_39_22, pvRf_39_23, pvRf_39_24, pvRf_39_25, pvRf_39_29, pvRf_39_30, pvE_iastore, pvAI, pvE_iinc, pvIc_s, pvE_goto, fX10_225, fX10_228, pvE_iload_n1, fX10_51, pvE_iaload, pvE_imul, pvE_bipush, fX10_7, pvE_iadd, pvE_if_eq, pvE_isub, aX10_searches_234, fX10_60, pvE_istore, pvE_if_lt, pvE_iload, pvE_icmp_lt, pvE_return, pvE_idiv, aX10_searches_237, pvE_irem, aX10_searches_240, bX10_searches_0, uX10_searches_0, bX10_searches_11, uX10_searches_11, bX10_searches_31, uX10_searches_31, bX10_searches_88, uX10_searches_88, bX10_searches_89, uX10_searches_89, bX10_searches_96, uX10_searches_96, bX10_searches_134, uX10_searches_134, bX10_searches_149, uX10_searches_149, bX10_searches_193, uX10_searches_193, bX10_searches_199, uX10_searches_199, pvMk_t, pvMk_f, pvMk_n, pvRecv_r, pvUp_nl, pvUp_same, pvUp_ap, pvSt_ap, pvX_c, pvX_ms, pvX_mn, pvE_nil, pvEn_i, pvEn_r, pvEn_l, pvEn_0, pvEn_s, pvRt, pvRv, pvTh, pvKc, pvGo, pvTgt, Int.toNat_natCast, false_and, and_false, true_and, and_true, if_true, if_false, reduceIte, reduceCtorEq, forall_const, false_or, or_false, true_or, or_true, ne_eq, not_true_eq_false, not_false_eq_true, implies_true, false_implies, Nat.reduceAdd, Nat.reduceSub, Nat.reduceMul, Nat.reduceEqDiff, Nat.reduceLT, Nat.reduceLeDiff, Int.reduceAdd, Int.reduceSub, Int.reduceMul, Int.reduceNeg, Int.reduceToNat, Int.reduceLE, Int.reduceLT, Int.reduceEq, Int.reduceNe, and_self]
          (repeat' first | with_reducible apply And.intro | with_reducible intro _)
          all_goals first
            | omega
            | exact q9
    have hcok := c0_ok wA wB
    have wA1 := wA.2.1
    have wB1 := wB.2.1
    have p31 : ∀ (z' : pvM), frF [39, 48, 53] [] z z' → (∀ j, j ≠ 28 → z'.1 39 j = z.1 39 j) → z'.1 39 28 = pr → srP z' s A B → (∀ p : Nat, p < 23552 → z'.1 53 p = -1) →
        SW 31 [some (vR 39), some (vI s), some (vI pr), none, none, none, none] z' := by
      intro z' f1 k1 e28 sr hd
      have g40 := f1.1 40 (by decide)
      have g52 := f1.1 52 (by decide)
      have gi : z'.1 40 (163 * s).toNat = A.2.1 := by rw [g40, eA]; exact rS_i hs.1 rfl
      have gi2 : z'.1 40 (163 * (1 - s)).toNat = (autR (z.1 40) (1 - s)).2.1 := by rw [g40]; exact rS_i (by omega) rfl
      have esm : z'.1 52 215 = 91 := by
        rw [sr.2.2.2.2.1 215 (by decide), if_pos (by decide)]
        have : smR 215 = 91 := by decide +kernel
        exact this
      have enc : ndC (c0F A B) = 256 * 91 + 16 * A.2.1 + B.2.1 := by
        unfold ndC c0F
        have : smR 215 = 91 := by decide +kernel
        rw [show ((256 * 215 + 16 * A.2.1 + B.2.1) / 256).toNat = 215 by omega, this]
        omega
      have ebi : (if pr = 0 then (0 : Int) else (autR (z.1 40) (1 - s)).2.1) = B.2.1 := by
        rw [eB]
        split <;> rfl
      have hl0 : lqF A B 0 (c0F A B) := ⟨rfl, fun m hm => absurd hm (Nat.not_lt_zero _)⟩
      have hne : c0F A B ≠ -1 := by have := hcok.1; omega
      have enx : nxC (c0F A B) = ndC (c0F A B) := if_neg hne
      have last : ∀ z2 : pvM, frF [39, 53, 55] [] (pvUp (pvUp z'.1 39 26 0) 39 27 (-1), z'.2) z2 → (∀ j, j ≠ 26 → j ≠ 27 → z2.1 39 j = z'.1 39 j) → rqF A B z2 [c0F A B] → (goF A B (c0F A B) → z2.1 39 27 = 0) → (¬ goF A B (c0F A B) → z2.1 39 27 = -1) → SW 96 [some (vR 39), some (vI s), none, some (vI 0), none, none, none] z2 := by
        intro z2 f2 k3 rq2 g1 g2
        have f3 : frF [39, 53, 55] [] z' z2 := frF_t (frF_u (frF_u frF_0 (by decide)) (by decide)) f2 (by decide) (by decide)
        have hD0 := lvN_eq hl0
        exact outer 23552 0 z2 [c0F A B] rfl (frF_t (frF_t frF_0 f1 (by decide) (by decide)) f3 (by decide) (by decide)) (fun j h1 h2 h3 => by rw [k3 j h1 h2, k1 j h3]) (srP_m sr f3 (by simp) (k3 28 (by decide) (by decide))) rq2 (by
            have := fn_s (A := A) (B := B) (Qs := []) (f := -1) (f' := z2.1 39 27) (c := c0F A B) (Or.inl ⟨rfl, fun c hc => absurd hc List.not_mem_nil⟩) (fun x hx => absurd hx List.not_mem_nil) (fun h => by rw [g1 h.2, hD0]; rfl) (fun h => g2 (fun hg => h ⟨by decide, hg⟩))
            rwa [List.nil_append] at this) (fun j hj => by
            have : j = 0 := by simpa using hj
            subst this
            show lvN A B (c0F A B) ≤ 0
            omega) ⟨fun j k hjk hk => by
              have h1 : k = 0 := by simpa using hk
              have h2 : j = 0 := by omega
              subst h1 h2
              exact Nat.le_refl _, ⟨by simp, rfl⟩, fun j hj => absurd hj (Nat.not_lt_zero _)⟩ (fun _ j hj => by
            have : j = 0 := by simpa using hj
            subst this
            omega)
      have rq1 : rqF A B (pvUp (pvUp z'.1 39 26 0) 39 27 (-1), z'.2) [] := ⟨by simp [pvUp_ap], fun i hi => absurd hi (Nat.not_lt_zero _), fun c hc => by
        rw [if_neg List.not_mem_nil]
        simp (disch := omega) only [pvUp_ap, if_neg]
        have := nc_r hc
        exact hd _ (by omega), List.nodup_nil, fun c hc => absurd hc List.not_mem_nil⟩
      have sr1 : srP (pvUp (pvUp z'.1 39 26 0) 39 27 (-1), z'.2) s A B := srP_m (ids := [39]) (jds := []) sr (by (repeat' first | assumption | exact frF_0 | (refine frF_u ?_ (by decide)) | (refine frF_s ?_ (by decide)) | (refine frF_l ?_ (by decide)))) (by simp) (by simp [pvUp_ap])
      refine hc 20 _ _ _ fun _ _ => ?_
      clear hc outer fin
      simp only [pvSt1]
      simp only [C_X10_comes, esm, gi, gi2, pvE_aload_n0, pvLA_s, pvLd, pvE_iload_n2, pvLI_s, pvE_putfield, pvPf_0, pvPf_1, fX10_222, pvSh_0, pvSh_1, pvSh_2, pvSh_3, pvSh_4, pvSh_5, pvSh_6, pvSh_7, pvSh_8, pvSh_9, pvSh_10, pvSh_11, pvSh_12, pvSh_13, pvSh_14, pvSh_15, pvSh_16, pvSh_17, pvSh_18, pvSh_19, pvSh_20, pvSh_21, pvSh_22, pvSh_23, pvSh_24, pvSh_25, pvSh_26, pvSh_27, pvSh_28, pvSh_29, pvSh_30, pvSh_31, pvSh_32, pvSh_33, pvSh_34, pvSh_35, pvSh_36, pvSh_37, pvSh_38, pvSh_39, pvSh_40, pvSh_41, pvSh_42, pvSh_43, pvSh_44, pvSh_45, pvSh_46, pvSh_47, pvSh_48, pvSh_49, pvSh_50, pvSh_51, pvSh_52, pvSh_53, pvSh_54, pvSh_55, pvSh_56, pvSh_57, pvSh_58, pvSh_59, pvE_invokevirtual, pvC1_s, pvC2_s, pvAf_v, pvAf_x, pvPop, pvCs, pvCat, pvPush, aX10_searches_197, pvE_iconst, pvE_istore_n3, pvS1, List.length_cons, List.length_nil, pvClr_i, pvClr_r, pvClr_l, pvClr_d, pvClr_f, pvClr_n, pvE_iload_n3, pvE_sipush, pvE_icmp_ge, pvE_getfield, pvGf_0, pvGf_1, pvGf_2, fX10_54, pvRf_0_0, pvRf_0_1, pvRf_0_2, pvRf_0_3, pvRf_0_4, pvRf_0_5, pvRf_0_6, pvRf_0_7, pvRf_0_8, pvRf_0_9, pvRf_0_10, pvRf_1_0, pvRf_3_0, pvRf_5_0, pvRf_5_1, pvRf_5_2, pvRf_9_0, pvRf_9_1, pvRf_9_2, pvRf_13_0, pvRf_13_1, pvRf_13_2, pvRf_17_0, pvRf_17_2, pvRf_20_0, pvRf_20_1, pvRf_20_2, pvRf_24_0, pvRf_24_1, pvRf_24_2, pvRf_28_0, pvRf_28_1, pvRf_28_2, pvRf_28_3, pvRf_33_0, pvRf_33_1, pvRf_36_0, pvRf_36_1, pvRf_39_0, pvRf_39_1, pvRf_39_2, pvRf_39_5, pvRf_39_6, pvRf_39_9, pvRf_39_13, pvRf_39_15, pvRf_39_16, pvRf_39_17, pvRf_39_19, pvRf_39_20, pvRf_39_22, pvRf_39_23, pvRf_39_24, pvRf_39_25, pvRf_39_29, pvRf_39_30, pvE_iastore, pvAI, pvE_iinc, pvIc_s, pvE_goto, fX10_225, fX10_228, pvE_iload_n1, fX10_51, pvE_iaload, pvE_imul, pvE_bipush, fX10_7, pvE_iadd, pvE_if_eq, pvE_isub, aX10_searches_234, fX10_60, pvE_istore, pvE_if_lt, pvE_iload, pvE_icmp_lt, pvE_return, pvE_idiv, aX10_searches_237, pvE_irem, aX10_searches_240, bX10_searches_0, uX10_searches_0, bX10_searches_11, uX10_searches_11, bX10_searches_31, uX10_searches_31, bX10_searches_88, uX10_searches_88, bX10_searches_89, uX10_searches_89, bX10_searches_96, uX10_searches_96, bX10_searches_134, uX10_searches_134, bX10_searches_149, uX10_searches_149, bX10_searches_193, uX10_searches_193, bX10_searches_199, uX10_searches_199, pvMk_t, pvMk_f, pvMk_n, pvRecv_r, pvUp_nl, pvUp_same, pvUp_ap, pvSt_ap, pvX_c, pvX_ms, pvX_mn, pvE_nil, pvEn_i, pvEn_r, pvEn_l, pvEn_0, pvEn_s, pvRt, pvRv, pvTh, pvKc, pvGo, pvTgt, Int.toNat_natCast, false_and, and_false, true_and, and_true, if_true, if_false, reduceIte, reduceCtorEq, forall_const, false_or, or_false, true_or, or_true, ne_eq, not_true_eq_false, not_false_eq_true, implies_true, false_implies, Nat.reduceAdd, Nat.reduceSub, Nat.reduceMul, Nat.reduceEqDiff, Nat.reduceLT, Nat.reduceLeDiff, Int.reduceAdd, Int.reduceSub, Int.reduceMul, Int.reduceNeg, Int.reduceToNat, Int.reduceLE, Int.reduceLT, Int.reduceEq, Int.reduceNe, and_self]
      have hx : pr = 0 → (23296 : Int) + 16 * A.2.1 + 0 = nxC (c0F A B) := fun h => by rw [if_pos h] at ebi; omega
      have hx2 : ¬ pr = 0 → (23296 : Int) + 16 * A.2.1 + (autR (z.1 40) (1 - s)).2.1 = nxC (c0F A B) := fun h => by rw [if_neg h] at ebi; omega
      have hbr : ¬ pr = 0 → 0 ≤ (autR (z.1 40) (1 - s)).2.1 ∧ (autR (z.1 40) (1 - s)).2.1 ≤ 15 := fun h => by rw [if_neg h] at ebi; omega
      (repeat' first | with_reducible apply And.intro | with_reducible intro _)
      all_goals first
        | omega
        | (have hbr1 := hbr (by assumption); omega)
        | skip
      all_goals
        refine ⟨A, B, [], c0F A B, ⟨sr1, rq1, by first | exact hx (by assumption) | exact hx2 (by assumption) | exact hx (Decidable.not_not.mp (by assumption)), Or.inr hcok, fun _ _ => hl0⟩, fun h => h.elim (fun h => absurd h hne) (fun h => absurd h List.not_mem_nil), fun _ _ z2 f2 k2 rq2 g1 g2 => ?_⟩
        have q9 := last z2 f2 (fun j h1 h2 => by rw [k2 j h1 h2]; simp [h1, h2]) (by rw [List.nil_append] at rq2; exact rq2) (fun h => by simpa [h] using g1 h) (fun h => by simpa [h] using g2 (by simpa using h))
        first
          | exact q9
          | exact ⟨by omega, q9⟩
    have lay : ∀ (m k : Nat) (z' : pvM), k + m = 23552 → frF [39, 48, 53] [] z z' → (∀ j, j ≠ 28 → z'.1 39 j = z.1 39 j) → z'.1 39 28 = pr → srP z' s A B → (∀ p : Nat, p < k → z'.1 53 p = -1) →
        SW 11 [some (vR 39), some (vI s), some (vI pr), some (vI (k : Int)), none, none, none] z' := by
      intro m
      induction m using Nat.strongRecOn with
      | _ m ih =>
        intro k z' hk f1 k1 e28 sr hd
        refine hc 20 _ _ _ fun _ _ => ?_
        simp only [pvSt1]
        simp only [pvE_aload_n0, pvLA_s, pvLd, pvE_iload_n2, pvLI_s, pvE_putfield, pvPf_0, pvPf_1, fX10_222, pvSh_0, pvSh_1, pvSh_2, pvSh_3, pvSh_4, pvSh_5, pvSh_6, pvSh_7, pvSh_8, pvSh_9, pvSh_10, pvSh_11, pvSh_12, pvSh_13, pvSh_14, pvSh_15, pvSh_16, pvSh_17, pvSh_18, pvSh_19, pvSh_20, pvSh_21, pvSh_22, pvSh_23, pvSh_24, pvSh_25, pvSh_26, pvSh_27, pvSh_28, pvSh_29, pvSh_30, pvSh_31, pvSh_32, pvSh_33, pvSh_34, pvSh_35, pvSh_36, pvSh_37, pvSh_38, pvSh_39, pvSh_40, pvSh_41, pvSh_42, pvSh_43, pvSh_44, pvSh_45, pvSh_46, pvSh_47, pvSh_48, pvSh_49, pvSh_50, pvSh_51, pvSh_52, pvSh_53, pvSh_54, pvSh_55, pvSh_56, pvSh_57, pvSh_58, pvSh_59, pvE_invokevirtual, pvC1_s, pvC2_s, pvAf_v, pvAf_x, pvPop, pvCs, pvCat, pvPush, aX10_searches_197, pvE_iconst, pvE_istore_n3, pvS1, List.length_cons, List.length_nil, pvClr_i, pvClr_r, pvClr_l, pvClr_d, pvClr_f, pvClr_n, pvE_iload_n3, pvE_sipush, pvE_icmp_ge, pvE_getfield, pvGf_0, pvGf_1, pvGf_2, fX10_54, pvRf_0_0, pvRf_0_1, pvRf_0_2, pvRf_0_3, pvRf_0_4, pvRf_0_5, pvRf_0_6, pvRf_0_7, pvRf_0_8, pvRf_0_9, pvRf_0_10, pvRf_1_0, pvRf_3_0, pvRf_5_0, pvRf_5_1, pvRf_5_2, pvRf_9_0, pvRf_9_1, pvRf_9_2, pvRf_13_0, pvRf_13_1, pvRf_13_2, pvRf_17_0, pvRf_17_2, pvRf_20_0, pvRf_20_1, pvRf_20_2, pvRf_24_0, pvRf_24_1, pvRf_24_2, pvRf_28_0, pvRf_28_1, pvRf_28_2, pvRf_28_3, pvRf_33_0, pvRf_33_1, pvRf_36_0, pvRf_36_1, pvRf_39_0, pvRf_39_1, pvRf_39_2, pvRf_39_5, pvRf_39_6, pvRf_39_9, pvRf_39_13, pvRf_39_15, pvRf_39_16, pvRf_39_17, pvRf_39_19, pvRf_39_20, pvRf_39_22, pvRf_39_23, pvRf_39_24, pvRf_39_25, pvRf_39_29, pvRf_39_30, pvE_iastore, pvAI, pvE_iinc, pvIc_s, pvE_goto, fX10_225, fX10_228, pvE_iload_n1, fX10_51, pvE_iaload, pvE_imul, pvE_bipush, fX10_7, pvE_iadd, pvE_if_eq, pvE_isub, aX10_searches_234, fX10_60, pvE_istore, pvE_if_lt, pvE_iload, pvE_icmp_lt, pvE_return, pvE_idiv, aX10_searches_237, pvE_irem, aX10_searches_240, bX10_searches_0, uX10_searches_0, bX10_searches_11, uX10_searches_11, bX10_searches_31, uX10_searches_31, bX10_searches_88, uX10_searches_88, bX10_searches_89, uX10_searches_89, bX10_searches_96, uX10_searches_96, bX10_searches_134, uX10_searches_134, bX10_searches_149, uX10_searches_149, bX10_searches_193, uX10_searches_193, bX10_searches_199, uX10_searches_199, pvMk_t, pvMk_f, pvMk_n, pvRecv_r, pvUp_nl, pvUp_same, pvUp_ap, pvSt_ap, pvX_c, pvX_ms, pvX_mn, pvE_nil, pvEn_i, pvEn_r, pvEn_l, pvEn_0, pvEn_s, pvRt, pvRv, pvTh, pvKc, pvGo, pvTgt, Int.toNat_natCast, false_and, and_false, true_and, and_true, if_true, if_false, reduceIte, reduceCtorEq, forall_const, false_or, or_false, true_or, or_true, ne_eq, not_true_eq_false, not_false_eq_true, implies_true, false_implies, Nat.reduceAdd, Nat.reduceSub, Nat.reduceMul, Nat.reduceEqDiff, Nat.reduceLT, Nat.reduceLeDiff, Int.reduceAdd, Int.reduceSub, Int.reduceMul, Int.reduceNeg, Int.reduceToNat, Int.reduceLE, Int.reduceLT, Int.reduceEq, Int.reduceNe, and_self]
        by_cases hx : 23552 ≤ k
        · have q9 := p31 z' f1 k1 e28 sr (fun p hp => hd p (by omega))
          (repeat' first | with_reducible apply And.intro | with_reducible intro _)
          all_goals first
            | omega
            | exact q9
        · have q9 := ih (m - 1) (by omega) (k + 1) (pvUp z'.1 53 k (-1), z'.2) (by omega) (by (repeat' first | assumption | exact frF_0 | (refine frF_u ?_ (by decide)) | (refine frF_s ?_ (by decide)) | (refine frF_l ?_ (by decide)))) (fun j hj => by simp (disch := omega) only [pvUp_ap, if_neg]; exact k1 j hj) (by simp (disch := omega) only [pvUp_ap, if_neg]; exact e28) (srP_m (ids := [53]) (jds := []) sr (by (repeat' first | assumption | exact frF_0 | (refine frF_u ?_ (by decide)) | (refine frF_s ?_ (by decide)) | (refine frF_l ?_ (by decide)))) (by simp) (by simp (disch := omega) only [pvUp_ap, if_neg])) (fun p hp => by
            simp only [pvUp_ap, true_and]
            by_cases e : p = k
            · rw [if_pos e]
            · rw [if_neg e]; exact hd p (by omega))
          (repeat' first | with_reducible apply And.intro | with_reducible intro _)
          all_goals first
            | omega
            | exact q9
    refine hc 20 _ _ _ fun _ _ => ?_
    clear hc outer fin
    simp only [pvSt1]
    simp only [C_X10_laysLeads, pvE_aload_n0, pvLA_s, pvLd, pvE_iload_n2, pvLI_s, pvE_putfield, pvPf_0, pvPf_1, fX10_222, pvSh_0, pvSh_1, pvSh_2, pvSh_3, pvSh_4, pvSh_5, pvSh_6, pvSh_7, pvSh_8, pvSh_9, pvSh_10, pvSh_11, pvSh_12, pvSh_13, pvSh_14, pvSh_15, pvSh_16, pvSh_17, pvSh_18, pvSh_19, pvSh_20, pvSh_21, pvSh_22, pvSh_23, pvSh_24, pvSh_25, pvSh_26, pvSh_27, pvSh_28, pvSh_29, pvSh_30, pvSh_31, pvSh_32, pvSh_33, pvSh_34, pvSh_35, pvSh_36, pvSh_37, pvSh_38, pvSh_39, pvSh_40, pvSh_41, pvSh_42, pvSh_43, pvSh_44, pvSh_45, pvSh_46, pvSh_47, pvSh_48, pvSh_49, pvSh_50, pvSh_51, pvSh_52, pvSh_53, pvSh_54, pvSh_55, pvSh_56, pvSh_57, pvSh_58, pvSh_59, pvE_invokevirtual, pvC1_s, pvC2_s, pvAf_v, pvAf_x, pvPop, pvCs, pvCat, pvPush, aX10_searches_197, pvE_iconst, pvE_istore_n3, pvS1, List.length_cons, List.length_nil, pvClr_i, pvClr_r, pvClr_l, pvClr_d, pvClr_f, pvClr_n, pvE_iload_n3, pvE_sipush, pvE_icmp_ge, pvE_getfield, pvGf_0, pvGf_1, pvGf_2, fX10_54, pvRf_0_0, pvRf_0_1, pvRf_0_2, pvRf_0_3, pvRf_0_4, pvRf_0_5, pvRf_0_6, pvRf_0_7, pvRf_0_8, pvRf_0_9, pvRf_0_10, pvRf_1_0, pvRf_3_0, pvRf_5_0, pvRf_5_1, pvRf_5_2, pvRf_9_0, pvRf_9_1, pvRf_9_2, pvRf_13_0, pvRf_13_1, pvRf_13_2, pvRf_17_0, pvRf_17_2, pvRf_20_0, pvRf_20_1, pvRf_20_2, pvRf_24_0, pvRf_24_1, pvRf_24_2, pvRf_28_0, pvRf_28_1, pvRf_28_2, pvRf_28_3, pvRf_33_0, pvRf_33_1, pvRf_36_0, pvRf_36_1, pvRf_39_0, pvRf_39_1, pvRf_39_2, pvRf_39_5, pvRf_39_6, pvRf_39_9, pvRf_39_13, pvRf_39_15, pvRf_39_16, pvRf_39_17, pvRf_39_19, pvRf_39_20, pvRf_39_22, pvRf_39_23, pvRf_39_24, pvRf_39_25, pvRf_39_29, pvRf_39_30, pvE_iastore, pvAI, pvE_iinc, pvIc_s, pvE_goto, fX10_225, fX10_228, pvE_iload_n1, fX10_51, pvE_iaload, pvE_imul, pvE_bipush, fX10_7, pvE_iadd, pvE_if_eq, pvE_isub, aX10_searches_234, fX10_60, pvE_istore, pvE_if_lt, pvE_iload, pvE_icmp_lt, pvE_return, pvE_idiv, aX10_searches_237, pvE_irem, aX10_searches_240, bX10_searches_0, uX10_searches_0, bX10_searches_11, uX10_searches_11, bX10_searches_31, uX10_searches_31, bX10_searches_88, uX10_searches_88, bX10_searches_89, uX10_searches_89, bX10_searches_96, uX10_searches_96, bX10_searches_134, uX10_searches_134, bX10_searches_149, uX10_searches_149, bX10_searches_193, uX10_searches_193, bX10_searches_199, uX10_searches_199, pvMk_t, pvMk_f, pvMk_n, pvRecv_r, pvUp_nl, pvUp_same, pvUp_ap, pvSt_ap, pvX_c, pvX_ms, pvX_mn, pvE_nil, pvEn_i, pvEn_r, pvEn_l, pvEn_0, pvEn_s, pvRt, pvRv, pvTh, pvKc, pvGo, pvTgt, Int.toNat_natCast, false_and, and_false, true_and, and_true, if_true, if_false, reduceIte, reduceCtorEq, forall_const, false_or, or_false, true_or, or_true, ne_eq, not_true_eq_false, not_false_eq_true, implies_true, false_implies, Nat.reduceAdd, Nat.reduceSub, Nat.reduceMul, Nat.reduceEqDiff, Nat.reduceLT, Nat.reduceLeDiff, Int.reduceAdd, Int.reduceSub, Int.reduceMul, Int.reduceNeg, Int.reduceToNat, Int.reduceLE, Int.reduceLT, Int.reduceEq, Int.reduceNe, and_self]
    (repeat' first | with_reducible apply And.intro | with_reducible intro _)
    all_goals first
      | omega
      | exact hws _ (by assumption)
      | skip
    all_goals
      rename_i z1 f1 l1
      have g39 : ∀ j, z1.1 39 j = if j = 28 then pr else z.1 39 j := fun j => by rw [f1.1 39 (by decide)]; simp [pvUp_ap]
      have g40 : z1.1 40 = z.1 40 := by rw [f1.1 40 (by decide)]; simp only [pvUp_nl, pvSt_ne, pvSt_eq, ne_eq, Nat.reduceEqDiff, not_false_eq_true]
      have g52 : z1.1 52 = z.1 52 := by rw [f1.1 52 (by decide)]; simp only [pvUp_nl, pvSt_ne, pvSt_eq, ne_eq, Nat.reduceEqDiff, not_false_eq_true]
      refine lay 23552 0 z1 rfl (frF_t (frF_u frF_0 (by decide)) f1 (by decide) (by decide)) (fun j hj => by rw [g39 j, if_neg hj]) (by rw [g39 28, if_pos rfl]) ⟨hs, by rw [g39 28, if_pos rfl]; exact hpr, by rw [g40]; exact hws, by rw [g40]; exact l1, by unfold smP; rw [g52]; exact hsm, by rw [g40]; exact eA, ?_⟩ (fun p hp => absurd hp (Nat.not_lt_zero _))
      unfold oaF
      rw [g39 28, if_pos rfl, g40]
      exact eB
  · exact h.elim
