def pnF (v : Int) : Int := if v % 6 = 0 then v / 6 % 6 + 6 * (v / 36) else if v / 6 % 6 = 0 then 36 + v % 6 - 1 + 5 * (v / 36) else if v / 36 = 0 then 66 + v % 6 - 1 + 5 * (v / 6 % 6 - 1) else 91
def inF (n : Int) : Int := if n < 36 then 6 * (n % 6) + 36 * (n / 6) else if n < 66 then (n - 36) % 5 + 1 + 36 * ((n - 36) / 5) else if n < 91 then (n - 66) % 5 + 1 + 6 * ((n - 66) / 5 + 1) else 215
theorem pn_in {v : Int} (h : okV v) : (0 ≤ pnF v ∧ pnF v < 92) ∧ inF (pnF v) = v := by
  obtain ⟨h1, h2⟩ := h
  unfold pnF inF
  (repeat' split) <;> omega
def plF (c : Int) : Int := 256 * pnF (c / 256) + c % 256
theorem pl_r {c : Int} (h : okQ c) : 0 ≤ plF c ∧ plF c < 23552 := by
  have := (pn_in h.2).1
  unfold plF
  omega
theorem pl_inj {c c' : Int} (h : okQ c) (h' : okQ c') (e : plF c = plF c') : c = c' := by
  obtain ⟨a1, a2⟩ := pn_in h.2
  obtain ⟨b1, b2⟩ := pn_in h'.2
  unfold plF at e
  have e1 : pnF (c / 256) = pnF (c' / 256) := by omega
  have e2 : c / 256 = c' / 256 := by rw [← a2, ← b2, e1]
  omega
/-- the queue as a list, the places -/
def quF (z : pvM) (Qs : List Int) : Prop := z.1 28 4 = Qs.length ∧ (∀ i, i < Qs.length → z.1 30 i = ndF Qs i) ∧ (∀ c, okQ c → z.1 29 (plF c).toNat = if c ∈ Qs then ((ixN Qs c : Nat) : Int) + 1 else 0) ∧ Qs.Nodup ∧ ∀ c ∈ Qs, okQ c
theorem map_nd {L : List Int} (h : L.Nodup) (hq : ∀ c ∈ L, okQ c) : (L.map plF).Nodup := by
  induction L with
  | nil => exact List.nodup_nil
  | cons y t ih =>
    rw [List.nodup_cons] at h
    rw [List.map_cons, List.nodup_cons]
    refine ⟨fun hm => ?_, ih h.2 (fun c hc => hq c (List.mem_cons_of_mem _ hc))⟩
    obtain ⟨x, hx, e⟩ := List.mem_map.mp hm
    have := pl_inj (hq x (List.mem_cons_of_mem _ hx)) (hq y List.mem_cons_self) e
    subst this
    exact h.1 hx
theorem qu_len {L : List Int} (h : L.Nodup) (hq : ∀ c ∈ L, okQ c) : L.length ≤ 23552 := by
  have := nd_len 23552 (L.map plF) (map_nd h hq) (fun x hx => by
    obtain ⟨c, hc, rfl⟩ := List.mem_map.mp hx
    exact pl_r (hq c hc))
  rwa [List.length_map] at this
theorem nodup_s {L : List Int} {x : Int} (h : L.Nodup) (hn : x ∉ L) : (L ++ [x]).Nodup := by
  rw [List.nodup_append]
  refine ⟨h, by simp, fun a ha b hb => ?_⟩
  simp only [List.mem_singleton] at hb
  subst hb
  intro e
  subst e
  exact hn ha
theorem qu_lt {L : List Int} {x : Int} (h : L.Nodup) (hq : ∀ c ∈ L, okQ c) (hn : x ∉ L) (hx : okQ x) : L.length < 23552 := by
  have := qu_len (nodup_s h hn) (fun c hc => by
    rcases List.mem_append.mp hc with hc | hc
    · exact hq c hc
    · simp only [List.mem_singleton] at hc; subst hc; exact hx)
  rw [List.length_append, List.length_singleton] at this
  omega
def C_X5_placeOf : pvC
  | [.inl v, .inl s], z, Q => (okV v ∧ 0 ≤ s ∧ s < 256) ∧ Q (.inl (some (vI (256 * pnF v + s)))) z
  | _, _, _ => False
def bX5_placeOf : Nat → List (Instr × Nat)
  | 0 => [(.iload_n 0, 1), (.bipush 6, 2), (.irem, 1), (.istore_n 2, 1), (.iload_n 0, 1), (.bipush 6, 2), (.idiv, 1), (.bipush 6, 2), (.irem, 1), (.istore_n 3, 1), (.iload_n 0, 1), (.bipush 36, 2), (.idiv, 1), (.istore 4, 2), (.iload_n 2, 1), (.ifCond .ne 17, 3), (.sipush 256, 3), (.iload_n 3, 1), (.bipush 6, 2), (.iload 4, 2), (.imul, 1), (.iadd, 1), (.imul, 1), (.iload_n 1, 1), (.iadd, 1), (.ireturn, 1)]
  | 37 => [(.iload_n 3, 1), (.ifCond .ne 21, 3), (.sipush 256, 3), (.bipush 36, 2), (.iload_n 2, 1), (.iadd, 1), (.iconst 1, 1), (.isub, 1), (.iconst 5, 1), (.iload 4, 2), (.imul, 1), (.iadd, 1), (.imul, 1), (.iload_n 1, 1), (.iadd, 1), (.ireturn, 1)]
  | 59 => [(.iload 4, 2), (.ifCond .ne 24, 3), (.sipush 256, 3), (.bipush 66, 2), (.iload_n 2, 1), (.iadd, 1), (.iconst 1, 1), (.isub, 1), (.iconst 5, 1), (.iload_n 3, 1), (.iconst 1, 1), (.isub, 1), (.imul, 1), (.iadd, 1), (.imul, 1), (.iload_n 1, 1), (.iadd, 1), (.goto 8, 3)]
  | 85 => [(.sipush 23296, 3), (.iload_n 1, 1), (.iadd, 1)]
  | 90 => [(.ireturn, 1)]
  | _ => []
def uX5_placeOf : Nat → Option (List Bool)
  | _ => none
def aX5_placeOf : pvCa
  | _ => none
theorem bX5_placeOf_0 : bX5_placeOf 0 = [(.iload_n 0, 1), (.bipush 6, 2), (.irem, 1), (.istore_n 2, 1), (.iload_n 0, 1), (.bipush 6, 2), (.idiv, 1), (.bipush 6, 2), (.irem, 1), (.istore_n 3, 1), (.iload_n 0, 1), (.bipush 36, 2), (.idiv, 1), (.istore 4, 2), (.iload_n 2, 1), (.ifCond .ne 17, 3), (.sipush 256, 3), (.iload_n 3, 1), (.bipush 6, 2), (.iload 4, 2), (.imul, 1), (.iadd, 1), (.imul, 1), (.iload_n 1, 1), (.iadd, 1), (.ireturn, 1)] := rfl
theorem uX5_placeOf_0 : uX5_placeOf 0 = none := rfl
theorem bX5_placeOf_37 : bX5_placeOf 37 = [(.iload_n 3, 1), (.ifCond .ne 21, 3), (.sipush 256, 3), (.bipush 36, 2), (.iload_n 2, 1), (.iadd, 1), (.iconst 1, 1), (.isub, 1), (.iconst 5, 1), (.iload 4, 2), (.imul, 1), (.iadd, 1), (.imul, 1), (.iload_n 1, 1), (.iadd, 1), (.ireturn, 1)] := rfl
theorem uX5_placeOf_37 : uX5_placeOf 37 = none := rfl
theorem bX5_placeOf_59 : bX5_placeOf 59 = [(.iload 4, 2), (.ifCond .ne 24, 3), (.sipush 256, 3), (.bipush 66, 2), (.iload_n 2, 1), (.iadd, 1), (.iconst 1, 1), (.isub, 1), (.iconst 5, 1), (.iload_n 3, 1), (.iconst 1, 1), (.isub, 1), (.imul, 1), (.iadd, 1), (.imul, 1), (.iload_n 1, 1), (.iadd, 1), (.goto 8, 3)] := rfl
theorem uX5_placeOf_59 : uX5_placeOf 59 = none := rfl
theorem bX5_placeOf_85 : bX5_placeOf 85 = [(.sipush 23296, 3), (.iload_n 1, 1), (.iadd, 1)] := rfl
theorem uX5_placeOf_85 : uX5_placeOf 85 = none := rfl
theorem bX5_placeOf_90 : bX5_placeOf 90 = [(.ireturn, 1)] := rfl
theorem uX5_placeOf_90 : uX5_placeOf 90 = none := rfl
set_option maxRecDepth 100000 in
set_option maxHeartbeats 4000000 in
theorem okX5_placeOf : pvOkM fX5 aX5_placeOf kX5 eX5 (some .int) bX5_placeOf uX5_placeOf 5 C_X5_placeOf := by
  intro Q SW hc as z h hS hz
  unfold C_X5_placeOf at h
  split at h
  · rename_i v s
    obtain ⟨⟨⟨hv, hv2⟩, hs⟩, h2⟩ := h
    refine ⟨Nat.le_of_ble_eq_true rfl, hc 20 _ _ _ fun _ _ => ?_⟩
    clear hc hS hz
    simp only [pvSt1]
    simp only [pvE_iload_n0, pvLI_s, pvLd, pvE_bipush, pvE_irem, pvE_istore_n2, pvS1, List.length_cons, List.length_nil, pvClr_i, pvClr_r, pvClr_l, pvClr_d, pvClr_f, pvClr_n, pvE_idiv, pvE_istore_n3, pvE_istore, pvE_iload_n2, pvE_if_ne, pvE_sipush, pvE_iload_n3, pvE_iload, pvE_imul, pvE_iadd, pvE_iload_n1, pvE_ireturn, pvE_iconst, pvE_isub, pvE_goto, bX5_placeOf_0, uX5_placeOf_0, bX5_placeOf_37, uX5_placeOf_37, bX5_placeOf_59, uX5_placeOf_59, bX5_placeOf_85, uX5_placeOf_85, bX5_placeOf_90, uX5_placeOf_90, pvRtG, pvRecv_r, pvUp_nl, pvUp_same, pvUp_ap, pvSt_ap, pvX_c, pvX_ms, pvX_mn, pvE_nil, pvEn_i, pvEn_r, pvEn_l, pvEn_0, pvEn_s, pvRt, pvRv, pvTh, pvKc, pvGo, pvTgt, Int.toNat_natCast, false_and, and_false, true_and, and_true, if_true, if_false, reduceIte, reduceCtorEq, forall_const, false_or, or_false, true_or, or_true, ne_eq, not_true_eq_false, not_false_eq_true, implies_true, false_implies, Nat.reduceAdd, Nat.reduceSub, Nat.reduceMul, Nat.reduceEqDiff, Nat.reduceLT, Nat.reduceLeDiff, Int.reduceAdd, Int.reduceSub, Int.reduceMul, Int.reduceNeg, Int.reduceToNat, Int.reduceLE, Int.reduceLT, Int.reduceEq, Int.reduceNe, and_self]
    unfold pnF at h2
    by_cases e1 : v % 6 = 0
    · rw [if_pos e1] at h2
      (repeat' first | with_reducible apply And.intro | with_reducible intro _)
      all_goals first
        | omega
        | contradiction
        | exact h2
    · rw [if_neg e1] at h2
      by_cases e2 : v / 6 % 6 = 0
      · rw [if_pos e2] at h2
        (repeat' first | with_reducible apply And.intro | with_reducible intro _)
        all_goals first
          | omega
          | contradiction
          | exact h2
      · rw [if_neg e2] at h2
        by_cases e3 : v / 36 = 0
        · rw [if_pos e3] at h2
          (repeat' first | with_reducible apply And.intro | with_reducible intro _)
          all_goals first
            | omega
            | contradiction
            | exact h2
        · rw [if_neg e3] at h2
          (repeat' first | with_reducible apply And.intro | with_reducible intro _)
          all_goals first
            | omega
            | contradiction
            | exact h2
  · exact h.elim
def C_X5_putStart : pvC
  | [.inr (.inr (.inl id)), .inl e, .inl p], z, Q => id = 28 ∧ (0 ≤ e ∧ e ≤ 11 → Q (.inl none) (pvUp z.1 32 e.toNat p, z.2)) ∧ (¬ (0 ≤ e ∧ e ≤ 11) → Q (.inl none) z)
  | _, _, _ => False
def bX5_putStart : Nat → List (Instr × Nat)
  | 0 => [(.iload_n 1, 1), (.aload_n 0, 1), (.getfield 21, 3), (.arraylength, 1), (.invokestatic 78, 3), (.ifCond .eq 10, 3), (.aload_n 0, 1), (.getfield 21, 3), (.iload_n 1, 1), (.iload_n 2, 1), (.iastore, 1)]
  | 19 => [(.return_, 1)]
  | _ => []
def uX5_putStart : Nat → Option (List Bool)
  | _ => none
def aX5_putStart : pvCa
  | 78 => some (2, true, 0, 0, C_X9_isIndex)
  | _ => none
theorem bX5_putStart_0 : bX5_putStart 0 = [(.iload_n 1, 1), (.aload_n 0, 1), (.getfield 21, 3), (.arraylength, 1), (.invokestatic 78, 3), (.ifCond .eq 10, 3), (.aload_n 0, 1), (.getfield 21, 3), (.iload_n 1, 1), (.iload_n 2, 1), (.iastore, 1)] := rfl
theorem uX5_putStart_0 : uX5_putStart 0 = none := rfl
theorem bX5_putStart_19 : bX5_putStart 19 = [(.return_, 1)] := rfl
theorem uX5_putStart_19 : uX5_putStart 19 = none := rfl
theorem aX5_putStart_78 : aX5_putStart 78 = some (2, true, 0, 0, C_X9_isIndex) := rfl
set_option maxRecDepth 100000 in
set_option maxHeartbeats 4000000 in
theorem okX5_putStart : pvOkM fX5 aX5_putStart kX5 eX5 none bX5_putStart uX5_putStart 3 C_X5_putStart := by
  intro Q SW hc as z h hS hz
  unfold C_X5_putStart at h
  split at h
  · rename_i id e p
    obtain ⟨hid, h⟩ := h
    refine ⟨Nat.le_of_ble_eq_true rfl, hc 20 _ _ _ fun _ _ => ?_⟩
    clear hc hS
    subst hid
    (simp only [pvSt1]
     simp only [C_X9_isIndex, pvE_iload_n1, pvLI_s, pvLd, pvE_aload_n0, pvLA_s, pvE_getfield, pvGf_0, pvGf_1, pvGf_2, fX5_21, pvSh_0, pvSh_1, pvSh_2, pvSh_3, pvSh_4, pvSh_5, pvSh_6, pvSh_7, pvSh_8, pvSh_9, pvSh_10, pvSh_11, pvSh_12, pvSh_13, pvSh_14, pvSh_15, pvSh_16, pvSh_17, pvSh_18, pvSh_19, pvSh_20, pvSh_21, pvSh_22, pvSh_23, pvSh_24, pvSh_25, pvSh_26, pvSh_27, pvSh_28, pvSh_29, pvSh_30, pvSh_31, pvSh_32, pvSh_33, pvSh_34, pvSh_35, pvSh_36, pvSh_37, pvSh_38, pvRf_0_0, pvRf_0_1, pvRf_0_2, pvRf_0_3, pvRf_0_4, pvRf_0_5, pvRf_0_6, pvRf_0_7, pvRf_0_8, pvRf_0_9, pvRf_0_10, pvRf_1_0, pvRf_3_0, pvRf_5_0, pvRf_5_1, pvRf_5_2, pvRf_9_0, pvRf_9_1, pvRf_9_2, pvRf_13_0, pvRf_13_1, pvRf_13_2, pvRf_17_0, pvRf_17_2, pvRf_20_0, pvRf_20_1, pvRf_20_2, pvRf_24_0, pvRf_24_1, pvRf_24_2, pvRf_28_0, pvRf_28_1, pvRf_28_2, pvRf_28_3, pvRf_33_0, pvRf_33_1, pvRf_36_0, pvRf_36_1, pvE_arraylength, pvAn, pvE_invokestatic (h0 := eX5_78), pvC1_s, pvC2_s, pvAf_v, pvAf_x, pvPop, pvCs, pvCat, pvPush, aX5_putStart_78, pvE_if_eq, pvE_iload_n2, pvE_iastore, pvAI, pvE_return, bX5_putStart_0, uX5_putStart_0, bX5_putStart_19, uX5_putStart_19, pvRtG, pvRecv_r, pvUp_nl, pvUp_same, pvUp_ap, pvSt_ap, pvX_c, pvX_ms, pvX_mn, pvE_nil, pvEn_i, pvEn_r, pvEn_l, pvEn_0, pvEn_s, pvRt, pvRv, pvTh, pvKc, pvGo, pvTgt, Int.toNat_natCast, false_and, and_false, true_and, and_true, if_true, if_false, reduceIte, reduceCtorEq, forall_const, false_or, or_false, true_or, or_true, ne_eq, not_true_eq_false, not_false_eq_true, implies_true, false_implies, Nat.reduceAdd, Nat.reduceSub, Nat.reduceMul, Nat.reduceEqDiff, Nat.reduceLT, Nat.reduceLeDiff, Int.reduceAdd, Int.reduceSub, Int.reduceMul, Int.reduceNeg, Int.reduceToNat, Int.reduceLE, Int.reduceLT, Int.reduceEq, Int.reduceNe, and_self]
     grind)
  · exact h.elim
def C_X5_startOf : pvC
  | [.inr (.inr (.inl id)), .inl e], z, Q => id = 28 ∧ (0 ≤ e ∧ e ≤ 11) ∧ Q (.inl (some (vI (z.1 32 e.toNat)))) z
  | _, _, _ => False
def bX5_startOf : Nat → List (Instr × Nat)
  | 0 => [(.iload_n 1, 1), (.aload_n 0, 1), (.getfield 21, 3), (.arraylength, 1), (.invokestatic 78, 3), (.ifCond .eq 12, 3), (.aload_n 0, 1), (.getfield 21, 3), (.iload_n 1, 1), (.iaload, 1), (.goto 4, 3)]
  | 21 => [(.iconst 0, 1)]
  | 22 => [(.ireturn, 1)]
  | _ => []
def uX5_startOf : Nat → Option (List Bool)
  | _ => none
def aX5_startOf : pvCa
  | 78 => some (2, true, 0, 0, C_X9_isIndex)
  | _ => none
theorem bX5_startOf_0 : bX5_startOf 0 = [(.iload_n 1, 1), (.aload_n 0, 1), (.getfield 21, 3), (.arraylength, 1), (.invokestatic 78, 3), (.ifCond .eq 12, 3), (.aload_n 0, 1), (.getfield 21, 3), (.iload_n 1, 1), (.iaload, 1), (.goto 4, 3)] := rfl
theorem uX5_startOf_0 : uX5_startOf 0 = none := rfl
theorem bX5_startOf_21 : bX5_startOf 21 = [(.iconst 0, 1)] := rfl
theorem uX5_startOf_21 : uX5_startOf 21 = none := rfl
theorem bX5_startOf_22 : bX5_startOf 22 = [(.ireturn, 1)] := rfl
theorem uX5_startOf_22 : uX5_startOf 22 = none := rfl
theorem aX5_startOf_78 : aX5_startOf 78 = some (2, true, 0, 0, C_X9_isIndex) := rfl
set_option maxRecDepth 100000 in
set_option maxHeartbeats 4000000 in
theorem okX5_startOf : pvOkM fX5 aX5_startOf kX5 eX5 (some .int) bX5_startOf uX5_startOf 2 C_X5_startOf := by
  intro Q SW hc as z h hS hz
  unfold C_X5_startOf at h
  split at h
  · rename_i id e
    obtain ⟨hid, h⟩ := h
    refine ⟨Nat.le_of_ble_eq_true rfl, hc 20 _ _ _ fun _ _ => ?_⟩
    clear hc hS
    subst hid
    (simp only [pvSt1]
     simp only [C_X9_isIndex, pvE_iload_n1, pvLI_s, pvLd, pvE_aload_n0, pvLA_s, pvE_getfield, pvGf_0, pvGf_1, pvGf_2, fX5_21, pvSh_0, pvSh_1, pvSh_2, pvSh_3, pvSh_4, pvSh_5, pvSh_6, pvSh_7, pvSh_8, pvSh_9, pvSh_10, pvSh_11, pvSh_12, pvSh_13, pvSh_14, pvSh_15, pvSh_16, pvSh_17, pvSh_18, pvSh_19, pvSh_20, pvSh_21, pvSh_22, pvSh_23, pvSh_24, pvSh_25, pvSh_26, pvSh_27, pvSh_28, pvSh_29, pvSh_30, pvSh_31, pvSh_32, pvSh_33, pvSh_34, pvSh_35, pvSh_36, pvSh_37, pvSh_38, pvRf_0_0, pvRf_0_1, pvRf_0_2, pvRf_0_3, pvRf_0_4, pvRf_0_5, pvRf_0_6, pvRf_0_7, pvRf_0_8, pvRf_0_9, pvRf_0_10, pvRf_1_0, pvRf_3_0, pvRf_5_0, pvRf_5_1, pvRf_5_2, pvRf_9_0, pvRf_9_1, pvRf_9_2, pvRf_13_0, pvRf_13_1, pvRf_13_2, pvRf_17_0, pvRf_17_2, pvRf_20_0, pvRf_20_1, pvRf_20_2, pvRf_24_0, pvRf_24_1, pvRf_24_2, pvRf_28_0, pvRf_28_1, pvRf_28_2, pvRf_28_3, pvRf_33_0, pvRf_33_1, pvRf_36_0, pvRf_36_1, pvE_arraylength, pvAn, pvE_invokestatic (h0 := eX5_78), pvC1_s, pvC2_s, pvAf_v, pvAf_x, pvPop, pvCs, pvCat, pvPush, aX5_startOf_78, pvE_if_eq, pvE_iaload, pvAI, pvE_goto, pvE_iconst, pvE_ireturn, bX5_startOf_0, uX5_startOf_0, bX5_startOf_21, uX5_startOf_21, bX5_startOf_22, uX5_startOf_22, pvRtG, pvRecv_r, pvUp_nl, pvUp_same, pvUp_ap, pvSt_ap, pvX_c, pvX_ms, pvX_mn, pvE_nil, pvEn_i, pvEn_r, pvEn_l, pvEn_0, pvEn_s, pvRt, pvRv, pvTh, pvKc, pvGo, pvTgt, Int.toNat_natCast, false_and, and_false, true_and, and_true, if_true, if_false, reduceIte, reduceCtorEq, forall_const, false_or, or_false, true_or, or_true, ne_eq, not_true_eq_false, not_false_eq_true, implies_true, false_implies, Nat.reduceAdd, Nat.reduceSub, Nat.reduceMul, Nat.reduceEqDiff, Nat.reduceLT, Nat.reduceLeDiff, Int.reduceAdd, Int.reduceSub, Int.reduceMul, Int.reduceNeg, Int.reduceToNat, Int.reduceLE, Int.reduceLT, Int.reduceEq, Int.reduceNe, and_self]
     grind)
  · exact h.elim
def C_X5_configurationAt : pvC
  | [.inr (.inr (.inl id)), .inl p], z, Q => id = 28 ∧ (0 ≤ p ∧ p < 23552) ∧ Q (.inl (some (vI (z.1 30 p.toNat)))) z
  | _, _, _ => False
def bX5_configurationAt : Nat → List (Instr × Nat)
  | 0 => [(.iload_n 1, 1), (.sipush 23552, 3), (.invokestatic 78, 3), (.ifCond .eq 12, 3), (.aload_n 0, 1), (.getfield 15, 3), (.iload_n 1, 1), (.iaload, 1), (.goto 4, 3)]
  | 19 => [(.iconst 0, 1)]
  | 20 => [(.ireturn, 1)]
  | _ => []
def uX5_configurationAt : Nat → Option (List Bool)
  | _ => none
def aX5_configurationAt : pvCa
  | 78 => some (2, true, 0, 0, C_X9_isIndex)
  | _ => none
theorem bX5_configurationAt_0 : bX5_configurationAt 0 = [(.iload_n 1, 1), (.sipush 23552, 3), (.invokestatic 78, 3), (.ifCond .eq 12, 3), (.aload_n 0, 1), (.getfield 15, 3), (.iload_n 1, 1), (.iaload, 1), (.goto 4, 3)] := rfl
theorem uX5_configurationAt_0 : uX5_configurationAt 0 = none := rfl
theorem bX5_configurationAt_19 : bX5_configurationAt 19 = [(.iconst 0, 1)] := rfl
theorem uX5_configurationAt_19 : uX5_configurationAt 19 = none := rfl
theorem bX5_configurationAt_20 : bX5_configurationAt 20 = [(.ireturn, 1)] := rfl
theorem uX5_configurationAt_20 : uX5_configurationAt 20 = none := rfl
theorem aX5_configurationAt_78 : aX5_configurationAt 78 = some (2, true, 0, 0, C_X9_isIndex) := rfl
set_option maxRecDepth 100000 in
set_option maxHeartbeats 4000000 in
theorem okX5_configurationAt : pvOkM fX5 aX5_configurationAt kX5 eX5 (some .int) bX5_configurationAt uX5_configurationAt 2 C_X5_configurationAt := by
  intro Q SW hc as z h hS hz
  unfold C_X5_configurationAt at h
  split at h
  · rename_i id p
    obtain ⟨hid, h⟩ := h
    refine ⟨Nat.le_of_ble_eq_true rfl, hc 20 _ _ _ fun _ _ => ?_⟩
    clear hc hS
    subst hid
    (simp only [pvSt1]
     simp only [C_X9_isIndex, pvE_iload_n1, pvLI_s, pvLd, pvE_sipush, pvE_invokestatic (h0 := eX5_78), pvC1_s, pvC2_s, pvAf_v, pvAf_x, pvPop, pvCs, pvCat, pvPush, aX5_configurationAt_78, pvE_if_eq, pvE_aload_n0, pvLA_s, pvE_getfield, pvGf_0, pvGf_1, pvGf_2, fX5_15, pvSh_0, pvSh_1, pvSh_2, pvSh_3, pvSh_4, pvSh_5, pvSh_6, pvSh_7, pvSh_8, pvSh_9, pvSh_10, pvSh_11, pvSh_12, pvSh_13, pvSh_14, pvSh_15, pvSh_16, pvSh_17, pvSh_18, pvSh_19, pvSh_20, pvSh_21, pvSh_22, pvSh_23, pvSh_24, pvSh_25, pvSh_26, pvSh_27, pvSh_28, pvSh_29, pvSh_30, pvSh_31, pvSh_32, pvSh_33, pvSh_34, pvSh_35, pvSh_36, pvSh_37, pvSh_38, pvRf_0_0, pvRf_0_1, pvRf_0_2, pvRf_0_3, pvRf_0_4, pvRf_0_5, pvRf_0_6, pvRf_0_7, pvRf_0_8, pvRf_0_9, pvRf_0_10, pvRf_1_0, pvRf_3_0, pvRf_5_0, pvRf_5_1, pvRf_5_2, pvRf_9_0, pvRf_9_1, pvRf_9_2, pvRf_13_0, pvRf_13_1, pvRf_13_2, pvRf_17_0, pvRf_17_2, pvRf_20_0, pvRf_20_1, pvRf_20_2, pvRf_24_0, pvRf_24_1, pvRf_24_2, pvRf_28_0, pvRf_28_1, pvRf_28_2, pvRf_28_3, pvRf_33_0, pvRf_33_1, pvRf_36_0, pvRf_36_1, pvE_iaload, pvAI, pvE_goto, pvE_iconst, pvE_ireturn, bX5_configurationAt_0, uX5_configurationAt_0, bX5_configurationAt_19, uX5_configurationAt_19, bX5_configurationAt_20, uX5_configurationAt_20, pvRtG, pvRecv_r, pvUp_nl, pvUp_same, pvUp_ap, pvSt_ap, pvX_c, pvX_ms, pvX_mn, pvE_nil, pvEn_i, pvEn_r, pvEn_l, pvEn_0, pvEn_s, pvRt, pvRv, pvTh, pvKc, pvGo, pvTgt, Int.toNat_natCast, false_and, and_false, true_and, and_true, if_true, if_false, reduceIte, reduceCtorEq, forall_const, false_or, or_false, true_or, or_true, ne_eq, not_true_eq_false, not_false_eq_true, implies_true, false_implies, Nat.reduceAdd, Nat.reduceSub, Nat.reduceMul, Nat.reduceEqDiff, Nat.reduceLT, Nat.reduceLeDiff, Int.reduceAdd, Int.reduceSub, Int.reduceMul, Int.reduceNeg, Int.reduceToNat, Int.reduceLE, Int.reduceLT, Int.reduceEq, Int.reduceNe, and_self]
     grind)
  · exact h.elim
def C_X5_costAt : pvC
  | [.inr (.inr (.inl id)), .inl p], z, Q => id = 28 ∧ (0 ≤ p ∧ p < 23552) ∧ Q (.inl (some (vI (z.1 31 p.toNat)))) z
  | _, _, _ => False
def bX5_costAt : Nat → List (Instr × Nat)
  | 0 => [(.iload_n 1, 1), (.sipush 23552, 3), (.invokestatic 78, 3), (.ifCond .eq 12, 3), (.aload_n 0, 1), (.getfield 18, 3), (.iload_n 1, 1), (.iaload, 1), (.goto 6, 3)]
  | 19 => [(.sipush 1000, 3)]
  | 22 => [(.ireturn, 1)]
  | _ => []
def uX5_costAt : Nat → Option (List Bool)
  | _ => none
def aX5_costAt : pvCa
  | 78 => some (2, true, 0, 0, C_X9_isIndex)
  | _ => none
theorem bX5_costAt_0 : bX5_costAt 0 = [(.iload_n 1, 1), (.sipush 23552, 3), (.invokestatic 78, 3), (.ifCond .eq 12, 3), (.aload_n 0, 1), (.getfield 18, 3), (.iload_n 1, 1), (.iaload, 1), (.goto 6, 3)] := rfl
theorem uX5_costAt_0 : uX5_costAt 0 = none := rfl
theorem bX5_costAt_19 : bX5_costAt 19 = [(.sipush 1000, 3)] := rfl
theorem uX5_costAt_19 : uX5_costAt 19 = none := rfl
theorem bX5_costAt_22 : bX5_costAt 22 = [(.ireturn, 1)] := rfl
theorem uX5_costAt_22 : uX5_costAt 22 = none := rfl
theorem aX5_costAt_78 : aX5_costAt 78 = some (2, true, 0, 0, C_X9_isIndex) := rfl
set_option maxRecDepth 100000 in
set_option maxHeartbeats 4000000 in
theorem okX5_costAt : pvOkM fX5 aX5_costAt kX5 eX5 (some .int) bX5_costAt uX5_costAt 2 C_X5_costAt := by
  intro Q SW hc as z h hS hz
  unfold C_X5_costAt at h
  split at h
  · rename_i id p
    obtain ⟨hid, h⟩ := h
    refine ⟨Nat.le_of_ble_eq_true rfl, hc 20 _ _ _ fun _ _ => ?_⟩
    clear hc hS
    subst hid
    (simp only [pvSt1]
     simp only [C_X9_isIndex, pvE_iload_n1, pvLI_s, pvLd, pvE_sipush, pvE_invokestatic (h0 := eX5_78), pvC1_s, pvC2_s, pvAf_v, pvAf_x, pvPop, pvCs, pvCat, pvPush, aX5_costAt_78, pvE_if_eq, pvE_aload_n0, pvLA_s, pvE_getfield, pvGf_0, pvGf_1, pvGf_2, fX5_18, pvSh_0, pvSh_1, pvSh_2, pvSh_3, pvSh_4, pvSh_5, pvSh_6, pvSh_7, pvSh_8, pvSh_9, pvSh_10, pvSh_11, pvSh_12, pvSh_13, pvSh_14, pvSh_15, pvSh_16, pvSh_17, pvSh_18, pvSh_19, pvSh_20, pvSh_21, pvSh_22, pvSh_23, pvSh_24, pvSh_25, pvSh_26, pvSh_27, pvSh_28, pvSh_29, pvSh_30, pvSh_31, pvSh_32, pvSh_33, pvSh_34, pvSh_35, pvSh_36, pvSh_37, pvSh_38, pvRf_0_0, pvRf_0_1, pvRf_0_2, pvRf_0_3, pvRf_0_4, pvRf_0_5, pvRf_0_6, pvRf_0_7, pvRf_0_8, pvRf_0_9, pvRf_0_10, pvRf_1_0, pvRf_3_0, pvRf_5_0, pvRf_5_1, pvRf_5_2, pvRf_9_0, pvRf_9_1, pvRf_9_2, pvRf_13_0, pvRf_13_1, pvRf_13_2, pvRf_17_0, pvRf_17_2, pvRf_20_0, pvRf_20_1, pvRf_20_2, pvRf_24_0, pvRf_24_1, pvRf_24_2, pvRf_28_0, pvRf_28_1, pvRf_28_2, pvRf_28_3, pvRf_33_0, pvRf_33_1, pvRf_36_0, pvRf_36_1, pvE_iaload, pvAI, pvE_goto, pvE_ireturn, bX5_costAt_0, uX5_costAt_0, bX5_costAt_19, uX5_costAt_19, bX5_costAt_22, uX5_costAt_22, pvRtG, pvRecv_r, pvUp_nl, pvUp_same, pvUp_ap, pvSt_ap, pvX_c, pvX_ms, pvX_mn, pvE_nil, pvEn_i, pvEn_r, pvEn_l, pvEn_0, pvEn_s, pvRt, pvRv, pvTh, pvKc, pvGo, pvTgt, Int.toNat_natCast, false_and, and_false, true_and, and_true, if_true, if_false, reduceIte, reduceCtorEq, forall_const, false_or, or_false, true_or, or_true, ne_eq, not_true_eq_false, not_false_eq_true, implies_true, false_implies, Nat.reduceAdd, Nat.reduceSub, Nat.reduceMul, Nat.reduceEqDiff, Nat.reduceLT, Nat.reduceLeDiff, Int.reduceAdd, Int.reduceSub, Int.reduceMul, Int.reduceNeg, Int.reduceToNat, Int.reduceLE, Int.reduceLT, Int.reduceEq, Int.reduceNe, and_self]
     grind)
  · exact h.elim
def C_X5_enter : pvC
  | [.inr (.inr (.inl id)), .inl v, .inl o, .inl t], z, Q => id = 28 ∧ ∃ Qs : List Int, (quF z Qs ∧ okV v ∧ (0 ≤ o ∧ o ≤ 15) ∧ 0 ≤ t ∧ t ≤ 15) ∧
      ∀ z' : pvM, frF [28, 29, 30] [] z z' → quF z' (insF Qs (256 * v + 16 * o + t)) → Q (.inl none) z'
  | _, _, _ => False
def bX5_enter : Nat → List (Instr × Nat)
  | 0 => [(.iload_n 2, 1), (.bipush 16, 2), (.imul, 1), (.iload_n 3, 1), (.iadd, 1), (.istore 4, 2), (.iload_n 1, 1), (.iload 4, 2), (.invokestatic 74, 3), (.istore 5, 2), (.iload 5, 2), (.sipush 23552, 3), (.invokestatic 78, 3), (.ifCond .eq 64, 3), (.aload_n 0, 1), (.getfield 11, 3), (.iload 5, 2), (.iaload, 1), (.ifCond .ne 54, 3), (.aload_n 0, 1), (.getfield 24, 3), (.sipush 23552, 3), (.invokestatic 78, 3), (.ifCond .eq 41, 3), (.aload_n 0, 1), (.getfield 15, 3), (.aload_n 0, 1), (.getfield 24, 3), (.sipush 256, 3), (.iload_n 1, 1), (.imul, 1), (.iload 4, 2), (.iadd, 1), (.iastore, 1), (.aload_n 0, 1), (.dup, 1), (.getfield 24, 3), (.iconst 1, 1), (.iadd, 1), (.putfield 24, 3), (.aload_n 0, 1), (.getfield 11, 3), (.iload 5, 2), (.aload_n 0, 1), (.getfield 24, 3), (.iastore, 1)]
  | 88 => [(.return_, 1)]
  | _ => []
def uX5_enter : Nat → Option (List Bool)
  | _ => none
def aX5_enter : pvCa
  | 74 => some (2, true, 0, 0, C_X5_placeOf)
  | 78 => some (2, true, 0, 0, C_X9_isIndex)
  | _ => none
theorem bX5_enter_0 : bX5_enter 0 = [(.iload_n 2, 1), (.bipush 16, 2), (.imul, 1), (.iload_n 3, 1), (.iadd, 1), (.istore 4, 2), (.iload_n 1, 1), (.iload 4, 2), (.invokestatic 74, 3), (.istore 5, 2), (.iload 5, 2), (.sipush 23552, 3), (.invokestatic 78, 3), (.ifCond .eq 64, 3), (.aload_n 0, 1), (.getfield 11, 3), (.iload 5, 2), (.iaload, 1), (.ifCond .ne 54, 3), (.aload_n 0, 1), (.getfield 24, 3), (.sipush 23552, 3), (.invokestatic 78, 3), (.ifCond .eq 41, 3), (.aload_n 0, 1), (.getfield 15, 3), (.aload_n 0, 1), (.getfield 24, 3), (.sipush 256, 3), (.iload_n 1, 1), (.imul, 1), (.iload 4, 2), (.iadd, 1), (.iastore, 1), (.aload_n 0, 1), (.dup, 1), (.getfield 24, 3), (.iconst 1, 1), (.iadd, 1), (.putfield 24, 3), (.aload_n 0, 1), (.getfield 11, 3), (.iload 5, 2), (.aload_n 0, 1), (.getfield 24, 3), (.iastore, 1)] := rfl
theorem uX5_enter_0 : uX5_enter 0 = none := rfl
theorem bX5_enter_88 : bX5_enter 88 = [(.return_, 1)] := rfl
theorem uX5_enter_88 : uX5_enter 88 = none := rfl
theorem aX5_enter_74 : aX5_enter 74 = some (2, true, 0, 0, C_X5_placeOf) := rfl
theorem aX5_enter_78 : aX5_enter 78 = some (2, true, 0, 0, C_X9_isIndex) := rfl
set_option maxRecDepth 100000 in
set_option maxHeartbeats 4000000 in
theorem okX5_enter : pvOkM fX5 aX5_enter kX5 eX5 none bX5_enter uX5_enter 6 C_X5_enter := by
  intro Q SW hc as z h hS hz
  unfold C_X5_enter at h
  split at h
  · rename_i id v o t
    obtain ⟨rfl, Qs, ⟨hq, hv, ho, ht⟩, h2⟩ := h
    obtain ⟨q1, q2, q3, q4, q5⟩ := hq
    have hv1 := hv.1
    have hpn := (pn_in hv).1
    obtain ⟨c, ec⟩ : ∃ c, 256 * v + 16 * o + t = c := ⟨_, rfl⟩
    have hd : c / 256 = v := by omega
    have hm : c % 256 = 16 * o + t := by omega
    have hok : okQ c := ⟨by omega, by rw [hd]; exact hv⟩
    have hpl : 256 * pnF v + (o * 16 + t) = plF c := by unfold plF; rw [hd, hm]; omega
    have hpr := pl_r hok
    have h3 := q3 c hok
    have hlen := qu_len q4 q5
    rw [ec] at h2
    have e2 : 256 * v + (o * 16 + t) = c := by omega
    refine ⟨Nat.le_of_ble_eq_true rfl, hc 20 _ _ _ fun _ _ => ?_⟩
    clear hc hS hz
    simp only [pvSt1]
    simp only [C_X5_placeOf, C_X9_isIndex, hpl, q1, h3, e2, pvE_iload_n2, pvLI_s, pvLd, pvE_bipush, pvE_imul, pvE_iload_n3, pvE_iadd, pvE_istore, pvS1, List.length_cons, List.length_nil, pvClr_i, pvClr_r, pvClr_l, pvClr_d, pvClr_f, pvClr_n, pvE_iload_n1, pvE_iload, pvE_invokestatic (h0 := eX5_74), pvC1_s, pvC2_s, pvAf_v, pvAf_x, pvPop, pvCs, pvCat, pvPush, aX5_enter_74, pvE_sipush, pvE_invokestatic (h0 := eX5_78), aX5_enter_78, pvE_if_eq, pvE_aload_n0, pvLA_s, pvE_getfield, pvGf_0, pvGf_1, pvGf_2, fX5_11, pvSh_0, pvSh_1, pvSh_2, pvSh_3, pvSh_4, pvSh_5, pvSh_6, pvSh_7, pvSh_8, pvSh_9, pvSh_10, pvSh_11, pvSh_12, pvSh_13, pvSh_14, pvSh_15, pvSh_16, pvSh_17, pvSh_18, pvSh_19, pvSh_20, pvSh_21, pvSh_22, pvSh_23, pvSh_24, pvSh_25, pvSh_26, pvSh_27, pvSh_28, pvSh_29, pvSh_30, pvSh_31, pvSh_32, pvSh_33, pvSh_34, pvSh_35, pvSh_36, pvSh_37, pvSh_38, pvRf_0_0, pvRf_0_1, pvRf_0_2, pvRf_0_3, pvRf_0_4, pvRf_0_5, pvRf_0_6, pvRf_0_7, pvRf_0_8, pvRf_0_9, pvRf_0_10, pvRf_1_0, pvRf_3_0, pvRf_5_0, pvRf_5_1, pvRf_5_2, pvRf_9_0, pvRf_9_1, pvRf_9_2, pvRf_13_0, pvRf_13_1, pvRf_13_2, pvRf_17_0, pvRf_17_2, pvRf_20_0, pvRf_20_1, pvRf_20_2, pvRf_24_0, pvRf_24_1, pvRf_24_2, pvRf_28_0, pvRf_28_1, pvRf_28_2, pvRf_28_3, pvRf_33_0, pvRf_33_1, pvRf_36_0, pvRf_36_1, pvE_iaload, pvAI, pvE_if_ne, fX5_24, fX5_15, pvE_iastore, pvE_dup_i, pvE_dup_r, pvE_iconst, pvE_putfield, pvPf_0, pvPf_1, pvE_return, bX5_enter_0, uX5_enter_0, bX5_enter_88, uX5_enter_88, pvRtG, pvRecv_r, pvUp_nl, pvUp_same, pvUp_ap, pvSt_ap, pvX_c, pvX_ms, pvX_mn, pvE_nil, pvEn_i, pvEn_r, pvEn_l, pvEn_0, pvEn_s, pvRt, pvRv, pvTh, pvKc, pvGo, pvTgt, Int.toNat_natCast, false_and, and_false, true_and, and_true, if_true, if_false, reduceIte, reduceCtorEq, forall_const, false_or, or_false, true_or, or_true, ne_eq, not_true_eq_false, not_false_eq_true, implies_true, false_implies, Nat.reduceAdd, Nat.reduceSub, Nat.reduceMul, Nat.reduceEqDiff, Nat.reduceLT, Nat.reduceLeDiff, Int.reduceAdd, Int.reduceSub, Int.reduceMul, Int.reduceNeg, Int.reduceToNat, Int.reduceLE, Int.reduceLT, Int.reduceEq, Int.reduceNe, and_self]
    by_cases hin : c ∈ Qs
    · have q9 := h2 z frF_0 (by unfold insF; rw [if_pos hin]; exact ⟨q1, q2, q3, q4, q5⟩)
      simp only [if_pos hin]
      (repeat' first | with_reducible apply And.intro | with_reducible intro _)
      all_goals first
        | omega
        | contradiction
        | assumption
    · have hlt := qu_lt q4 q5 hin hok
      have q9 := h2 (pvUp (pvUp (pvUp z.1 30 Qs.length c) 28 4 ((Qs.length : Int) + 1)) 29 (plF c).toNat ((Qs.length : Int) + 1), z.2) (by (repeat' first | assumption | exact frF_0 | (refine frF_u ?_ (by decide)) | (refine frF_s ?_ (by decide)) | (refine frF_l ?_ (by decide)))) (by
        have e9 : insF Qs c = Qs ++ [c] := if_neg hin
        rw [e9]
        refine ⟨by simp [pvUp_ap], fun i hi => ?_, fun c' hc' => ?_, nodup_s q4 hin, fun c' hc' => ?_⟩
        · rw [List.length_append, List.length_singleton] at hi
          by_cases ei : i = Qs.length
          · subst ei
            rw [ndF_b]
            simp (disch := omega) only [pvUp_ap, if_neg, true_and, if_true, reduceIte]
          · rw [ndF_a (by omega), ← q2 i (by omega)]
            simp (disch := omega) only [pvUp_ap, if_neg]
        · by_cases ecc : c' = c
          · subst ecc
            rw [if_pos (by simp), ixN_first (i := Qs.length) (by simp) ndF_b (fun j hj e => hin (by rw [ndF_a hj] at e; rw [← e]; exact ndF_m hj))]
            simp [pvUp_ap]
          · have hpne : (plF c').toNat ≠ (plF c).toNat := fun e => ecc (pl_inj hc' hok (by have := pl_r hc'; omega))
            have e3 := q3 c' hc'
            have hmem : (c' ∈ Qs ++ [c]) ↔ c' ∈ Qs := by simp [ecc]
            simp (disch := omega) only [pvUp_ap, if_neg]
            rw [e3]
            by_cases hi : c' ∈ Qs
            · rw [if_pos hi, if_pos (hmem.mpr hi), ixN_a hi]
            · rw [if_neg hi, if_neg (fun q => hi (hmem.mp q))]
        · rcases List.mem_append.mp hc' with hc' | hc'
          · exact q5 c' hc'
          · simp only [List.mem_singleton] at hc'; subst hc'; exact hok)
      simp only [if_neg hin]
      (repeat' first | with_reducible apply And.intro | with_reducible intro _)
      all_goals first
        | omega
        | contradiction
        | assumption
        | (simp only [Int.toNat_natCast]; exact q9)
  · exact h.elim
def C_X5_forget : pvC
  | [.inr (.inr (.inl id))], z, Q => id = 28 ∧ ∃ Qs : List Int, quF z Qs ∧ ∀ z' : pvM, frF [28, 29] [] z z' → quF z' [] → Q (.inl none) z'
  | _, _, _ => False
def bX5_forget : Nat → List (Instr × Nat)
  | 0 => [(.iconst 0, 1), (.istore_n 1, 1)]
  | 2 => [(.iload_n 1, 1), (.aload_n 0, 1), (.getfield 24, 3), (.if_icmp .ge 54, 3), (.iload_n 1, 1), (.sipush 23552, 3), (.if_icmp .ge 47, 3), (.aload_n 0, 1), (.getfield 15, 3), (.iload_n 1, 1), (.iaload, 1), (.istore_n 2, 1), (.iload_n 2, 1), (.sipush 256, 3), (.idiv, 1), (.iload_n 2, 1), (.sipush 256, 3), (.irem, 1), (.invokestatic 74, 3), (.istore_n 3, 1), (.iload_n 3, 1), (.sipush 23552, 3), (.invokestatic 78, 3), (.ifCond .eq 10, 3), (.aload_n 0, 1), (.getfield 11, 3), (.iload_n 3, 1), (.iconst 0, 1), (.iastore, 1)]
  | 55 => [(.iinc 1 1, 3), (.goto (-56), 3)]
  | 61 => [(.aload_n 0, 1), (.iconst 0, 1), (.putfield 24, 3), (.return_, 1)]
  | _ => []
def uX5_forget : Nat → Option (List Bool)
  | 2 => some [true, true, false, false]
  | _ => none
def aX5_forget : pvCa
  | 74 => some (2, true, 0, 0, C_X5_placeOf)
  | 78 => some (2, true, 0, 0, C_X9_isIndex)
  | _ => none
theorem bX5_forget_0 : bX5_forget 0 = [(.iconst 0, 1), (.istore_n 1, 1)] := rfl
theorem uX5_forget_0 : uX5_forget 0 = none := rfl
theorem bX5_forget_2 : bX5_forget 2 = [(.iload_n 1, 1), (.aload_n 0, 1), (.getfield 24, 3), (.if_icmp .ge 54, 3), (.iload_n 1, 1), (.sipush 23552, 3), (.if_icmp .ge 47, 3), (.aload_n 0, 1), (.getfield 15, 3), (.iload_n 1, 1), (.iaload, 1), (.istore_n 2, 1), (.iload_n 2, 1), (.sipush 256, 3), (.idiv, 1), (.iload_n 2, 1), (.sipush 256, 3), (.irem, 1), (.invokestatic 74, 3), (.istore_n 3, 1), (.iload_n 3, 1), (.sipush 23552, 3), (.invokestatic 78, 3), (.ifCond .eq 10, 3), (.aload_n 0, 1), (.getfield 11, 3), (.iload_n 3, 1), (.iconst 0, 1), (.iastore, 1)] := rfl
theorem uX5_forget_2 : uX5_forget 2 = some [true, true, false, false] := rfl
theorem bX5_forget_55 : bX5_forget 55 = [(.iinc 1 1, 3), (.goto (-56), 3)] := rfl
theorem uX5_forget_55 : uX5_forget 55 = none := rfl
theorem bX5_forget_61 : bX5_forget 61 = [(.aload_n 0, 1), (.iconst 0, 1), (.putfield 24, 3), (.return_, 1)] := rfl
theorem uX5_forget_61 : uX5_forget 61 = none := rfl
theorem aX5_forget_74 : aX5_forget 74 = some (2, true, 0, 0, C_X5_placeOf) := rfl
theorem aX5_forget_78 : aX5_forget 78 = some (2, true, 0, 0, C_X9_isIndex) := rfl
set_option maxRecDepth 100000 in
set_option maxHeartbeats 4000000 in
theorem okX5_forget : pvOkM fX5 aX5_forget kX5 eX5 none bX5_forget uX5_forget 4 C_X5_forget := by
  intro Q SW hc as z h hS hz
  unfold C_X5_forget at h
  split at h
  · rename_i id
    obtain ⟨rfl, Qs, ⟨q1, q2, q3, q4, q5⟩, h2⟩ := h
    have hlen := qu_len q4 q5
    refine ⟨Nat.le_of_ble_eq_true rfl, ?_⟩
    have loop : ∀ (m k : Nat) (z' : pvM), k + m = Qs.length → frF [29] [] z z' → (∀ c, okQ c → (c ∈ Qs → ixN Qs c < k → z'.1 29 (plF c).toNat = 0) ∧ (c ∉ Qs → z'.1 29 (plF c).toNat = 0)) →
        SW 2 [some (vR 28), some (vI (k : Int)), none, none] z' := by
      intro m
      induction m using Nat.strongRecOn with
      | _ m ih =>
        intro k z' hk f1 o1
        have g28 := f1.1 28 (by decide)
        have g30 := f1.1 30 (by decide)
        refine hc 20 _ _ _ fun _ _ => ?_
        simp only [pvSt1]
        by_cases hx : Qs.length ≤ k
        · have q9 := h2 (pvUp z'.1 28 4 0, z'.2) (by refine frF_u ?_ (by decide); exact frF_t frF_0 f1 (by decide) (by decide)) ⟨by simp [pvUp_ap], fun i hi => absurd hi (Nat.not_lt_zero _), fun c hc => by
            rw [if_neg List.not_mem_nil]
            simp (disch := omega) only [pvUp_ap, if_neg]
            obtain ⟨a, b⟩ := o1 c hc
            by_cases hm : c ∈ Qs
            · exact a hm (by have := (ixN_lt hm).1; omega)
            · exact b hm, List.nodup_nil, fun c hc => absurd hc List.not_mem_nil⟩
          simp only [g28, q1, pvE_iconst, pvE_istore_n1, pvS1, List.length_cons, List.length_nil, pvClr_i, pvClr_r, pvClr_l, pvClr_d, pvClr_f, pvClr_n, pvE_iload_n1, pvLI_s, pvLd, pvE_aload_n0, pvLA_s, pvE_getfield, pvGf_0, pvGf_1, pvGf_2, fX5_24, pvSh_0, pvSh_1, pvSh_2, pvSh_3, pvSh_4, pvSh_5, pvSh_6, pvSh_7, pvSh_8, pvSh_9, pvSh_10, pvSh_11, pvSh_12, pvSh_13, pvSh_14, pvSh_15, pvSh_16, pvSh_17, pvSh_18, pvSh_19, pvSh_20, pvSh_21, pvSh_22, pvSh_23, pvSh_24, pvSh_25, pvSh_26, pvSh_27, pvSh_28, pvSh_29, pvSh_30, pvSh_31, pvSh_32, pvSh_33, pvSh_34, pvSh_35, pvSh_36, pvSh_37, pvSh_38, pvRf_0_0, pvRf_0_1, pvRf_0_2, pvRf_0_3, pvRf_0_4, pvRf_0_5, pvRf_0_6, pvRf_0_7, pvRf_0_8, pvRf_0_9, pvRf_0_10, pvRf_1_0, pvRf_3_0, pvRf_5_0, pvRf_5_1, pvRf_5_2, pvRf_9_0, pvRf_9_1, pvRf_9_2, pvRf_13_0, pvRf_13_1, pvRf_13_2, pvRf_17_0, pvRf_17_2, pvRf_20_0, pvRf_20_1, pvRf_20_2, pvRf_24_0, pvRf_24_1, pvRf_24_2, pvRf_28_0, pvRf_28_1, pvRf_28_2, pvRf_28_3, pvRf_33_0, pvRf_33_1, pvRf_36_0, pvRf_36_1, pvE_icmp_ge, pvE_sipush, fX5_15, pvE_iaload, pvAI, pvE_istore_n2, pvE_iload_n2, pvE_idiv, pvE_irem, pvE_invokestatic (h0 := eX5_74), pvC1_s, pvC2_s, pvAf_v, pvAf_x, pvPop, pvCs, pvCat, pvPush, aX5_forget_74, pvE_istore_n3, pvE_iload_n3, pvE_invokestatic (h0 := eX5_78), aX5_forget_78, pvE_if_eq, fX5_11, pvE_iastore, pvE_iinc, pvIc_s, pvE_goto, pvE_putfield, pvPf_0, pvPf_1, pvE_return, bX5_forget_0, uX5_forget_0, bX5_forget_2, uX5_forget_2, bX5_forget_55, uX5_forget_55, bX5_forget_61, uX5_forget_61, pvMk_t, pvMk_f, pvMk_n, pvRtG, pvRecv_r, pvUp_nl, pvUp_same, pvUp_ap, pvSt_ap, pvX_c, pvX_ms, pvX_mn, pvE_nil, pvEn_i, pvEn_r, pvEn_l, pvEn_0, pvEn_s, pvRt, pvRv, pvTh, pvKc, pvGo, pvTgt, Int.toNat_natCast, false_and, and_false, true_and, and_true, if_true, if_false, reduceIte, reduceCtorEq, forall_const, false_or, or_false, true_or, or_true, ne_eq, not_true_eq_false, not_false_eq_true, implies_true, false_implies, Nat.reduceAdd, Nat.reduceSub, Nat.reduceMul, Nat.reduceEqDiff, Nat.reduceLT, Nat.reduceLeDiff, Int.reduceAdd, Int.reduceSub, Int.reduceMul, Int.reduceNeg, Int.reduceToNat, Int.reduceLE, Int.reduceLT, Int.reduceEq, Int.reduceNe, and_self]
          (repeat' first | with_reducible apply And.intro | with_reducible intro _)
          all_goals first
            | omega
            | exact q9
        · have ek := q2 k (by omega)
          have hmk := ndF_m (L := Qs) (i := k) (by omega)
          have hok := q5 _ hmk
          obtain ⟨c, ec⟩ : ∃ c, ndF Qs k = c := ⟨_, rfl⟩
          rw [ec] at ek hmk hok
          have hpr := pl_r hok
          have hv1 := hok.2
          have h0 := hok.1
          have hpl : 256 * pnF (c / 256) + c % 256 = plF c := rfl
          have q9 := ih (m - 1) (by omega) (k + 1) (pvUp z'.1 29 (plF c).toNat 0, z'.2) (by omega) (by (repeat' first | assumption | exact frF_0 | (refine frF_u ?_ (by decide)) | (refine frF_s ?_ (by decide)) | (refine frF_l ?_ (by decide)))) (fun c' hc' => by
            obtain ⟨a, b⟩ := o1 c' hc'
            simp only [pvUp_ap, true_and]
            by_cases ecc : (plF c').toNat = (plF c).toNat
            · rw [if_pos ecc]; exact ⟨fun _ _ => rfl, fun _ => rfl⟩
            · rw [if_neg ecc]
              refine ⟨fun hm hi => a hm ?_, b⟩
              have : ixN Qs c' ≠ k := fun e => ecc (by
                have h9 := (ixN_lt hm).2
                rw [e, ec] at h9
                rw [h9])
              omega)
          simp only [C_X5_placeOf, C_X9_isIndex, g28, q1, g30, ek, hpl, pvE_iconst, pvE_istore_n1, pvS1, List.length_cons, List.length_nil, pvClr_i, pvClr_r, pvClr_l, pvClr_d, pvClr_f, pvClr_n, pvE_iload_n1, pvLI_s, pvLd, pvE_aload_n0, pvLA_s, pvE_getfield, pvGf_0, pvGf_1, pvGf_2, fX5_24, pvSh_0, pvSh_1, pvSh_2, pvSh_3, pvSh_4, pvSh_5, pvSh_6, pvSh_7, pvSh_8, pvSh_9, pvSh_10, pvSh_11, pvSh_12, pvSh_13, pvSh_14, pvSh_15, pvSh_16, pvSh_17, pvSh_18, pvSh_19, pvSh_20, pvSh_21, pvSh_22, pvSh_23, pvSh_24, pvSh_25, pvSh_26, pvSh_27, pvSh_28, pvSh_29, pvSh_30, pvSh_31, pvSh_32, pvSh_33, pvSh_34, pvSh_35, pvSh_36, pvSh_37, pvSh_38, pvRf_0_0, pvRf_0_1, pvRf_0_2, pvRf_0_3, pvRf_0_4, pvRf_0_5, pvRf_0_6, pvRf_0_7, pvRf_0_8, pvRf_0_9, pvRf_0_10, pvRf_1_0, pvRf_3_0, pvRf_5_0, pvRf_5_1, pvRf_5_2, pvRf_9_0, pvRf_9_1, pvRf_9_2, pvRf_13_0, pvRf_13_1, pvRf_13_2, pvRf_17_0, pvRf_17_2, pvRf_20_0, pvRf_20_1, pvRf_20_2, pvRf_24_0, pvRf_24_1, pvRf_24_2, pvRf_28_0, pvRf_28_1, pvRf_28_2, pvRf_28_3, pvRf_33_0, pvRf_33_1, pvRf_36_0, pvRf_36_1, pvE_icmp_ge, pvE_sipush, fX5_15, pvE_iaload, pvAI, pvE_istore_n2, pvE_iload_n2, pvE_idiv, pvE_irem, pvE_invokestatic (h0 := eX5_74), pvC1_s, pvC2_s, pvAf_v, pvAf_x, pvPop, pvCs, pvCat, pvPush, aX5_forget_74, pvE_istore_n3, pvE_iload_n3, pvE_invokestatic (h0 := eX5_78), aX5_forget_78, pvE_if_eq, fX5_11, pvE_iastore, pvE_iinc, pvIc_s, pvE_goto, pvE_putfield, pvPf_0, pvPf_1, pvE_return, bX5_forget_0, uX5_forget_0, bX5_forget_2, uX5_forget_2, bX5_forget_55, uX5_forget_55, bX5_forget_61, uX5_forget_61, pvMk_t, pvMk_f, pvMk_n, pvRtG, pvRecv_r, pvUp_nl, pvUp_same, pvUp_ap, pvSt_ap, pvX_c, pvX_ms, pvX_mn, pvE_nil, pvEn_i, pvEn_r, pvEn_l, pvEn_0, pvEn_s, pvRt, pvRv, pvTh, pvKc, pvGo, pvTgt, Int.toNat_natCast, false_and, and_false, true_and, and_true, if_true, if_false, reduceIte, reduceCtorEq, forall_const, false_or, or_false, true_or, or_true, ne_eq, not_true_eq_false, not_false_eq_true, implies_true, false_implies, Nat.reduceAdd, Nat.reduceSub, Nat.reduceMul, Nat.reduceEqDiff, Nat.reduceLT, Nat.reduceLeDiff, Int.reduceAdd, Int.reduceSub, Int.reduceMul, Int.reduceNeg, Int.reduceToNat, Int.reduceLE, Int.reduceLT, Int.reduceEq, Int.reduceNe, and_self]
          (repeat' first | with_reducible apply And.intro | with_reducible intro _)
          all_goals first
            | omega
            | assumption
            | exact q9
    refine hc 20 _ _ _ fun _ _ => ?_
    simp only [pvSt1]
    simp only [pvE_iconst, pvE_istore_n1, pvS1, List.length_cons, List.length_nil, pvClr_i, pvClr_r, pvClr_l, pvClr_d, pvClr_f, pvClr_n, pvE_iload_n1, pvLI_s, pvLd, pvE_aload_n0, pvLA_s, pvE_getfield, pvGf_0, pvGf_1, pvGf_2, fX5_24, pvSh_0, pvSh_1, pvSh_2, pvSh_3, pvSh_4, pvSh_5, pvSh_6, pvSh_7, pvSh_8, pvSh_9, pvSh_10, pvSh_11, pvSh_12, pvSh_13, pvSh_14, pvSh_15, pvSh_16, pvSh_17, pvSh_18, pvSh_19, pvSh_20, pvSh_21, pvSh_22, pvSh_23, pvSh_24, pvSh_25, pvSh_26, pvSh_27, pvSh_28, pvSh_29, pvSh_30, pvSh_31, pvSh_32, pvSh_33, pvSh_34, pvSh_35, pvSh_36, pvSh_37, pvSh_38, pvRf_0_0, pvRf_0_1, pvRf_0_2, pvRf_0_3, pvRf_0_4, pvRf_0_5, pvRf_0_6, pvRf_0_7, pvRf_0_8, pvRf_0_9, pvRf_0_10, pvRf_1_0, pvRf_3_0, pvRf_5_0, pvRf_5_1, pvRf_5_2, pvRf_9_0, pvRf_9_1, pvRf_9_2, pvRf_13_0, pvRf_13_1, pvRf_13_2, pvRf_17_0, pvRf_17_2, pvRf_20_0, pvRf_20_1, pvRf_20_2, pvRf_24_0, pvRf_24_1, pvRf_24_2, pvRf_28_0, pvRf_28_1, pvRf_28_2, pvRf_28_3, pvRf_33_0, pvRf_33_1, pvRf_36_0, pvRf_36_1, pvE_icmp_ge, pvE_sipush, fX5_15, pvE_iaload, pvAI, pvE_istore_n2, pvE_iload_n2, pvE_idiv, pvE_irem, pvE_invokestatic (h0 := eX5_74), pvC1_s, pvC2_s, pvAf_v, pvAf_x, pvPop, pvCs, pvCat, pvPush, aX5_forget_74, pvE_istore_n3, pvE_iload_n3, pvE_invokestatic (h0 := eX5_78), aX5_forget_78, pvE_if_eq, fX5_11, pvE_iastore, pvE_iinc, pvIc_s, pvE_goto, pvE_putfield, pvPf_0, pvPf_1, pvE_return, bX5_forget_0, uX5_forget_0, bX5_forget_2, uX5_forget_2, bX5_forget_55, uX5_forget_55, bX5_forget_61, uX5_forget_61, pvMk_t, pvMk_f, pvMk_n, pvRtG, pvRecv_r, pvUp_nl, pvUp_same, pvUp_ap, pvSt_ap, pvX_c, pvX_ms, pvX_mn, pvE_nil, pvEn_i, pvEn_r, pvEn_l, pvEn_0, pvEn_s, pvRt, pvRv, pvTh, pvKc, pvGo, pvTgt, Int.toNat_natCast, false_and, and_false, true_and, and_true, if_true, if_false, reduceIte, reduceCtorEq, forall_const, false_or, or_false, true_or, or_true, ne_eq, not_true_eq_false, not_false_eq_true, implies_true, false_implies, Nat.reduceAdd, Nat.reduceSub, Nat.reduceMul, Nat.reduceEqDiff, Nat.reduceLT, Nat.reduceLeDiff, Int.reduceAdd, Int.reduceSub, Int.reduceMul, Int.reduceNeg, Int.reduceToNat, Int.reduceLE, Int.reduceLT, Int.reduceEq, Int.reduceNe, and_self]
    (repeat' first | with_reducible apply And.intro | with_reducible intro _)
    all_goals first
      | omega
      | exact loop Qs.length 0 z (by omega) frF_0 (fun c hc => ⟨fun _ hi => absurd hi (Nat.not_lt_zero _), fun hn => by rw [q3 c hc, if_neg hn]⟩)
  · exact h.elim
/-- a powerset that the search may ask -/
def psS (z : pvM) (id : Nat) (A : Aut) : Prop := (id = 5 ∨ id = 9 ∨ id = 13) ∧ mvP (z.1 (id + 1)) A ∧ z.1 id 4 = A.2.1 ∧ z.1 id 5 = A.2.2.1 ∧ WfA A
theorem psS_m {z z' : pvM} {id : Nat} {A : Aut} {ids jds : List Nat} (h : psS z id A) (hf : frF ids jds z z') (hi : ∀ x ∈ ids, 28 ≤ x ∨ x = 20 ∨ x = 21 ∨ x = 22 ∨ x = 23) : psS z' id A := by
  obtain ⟨h1, h2, h3, h4, h5⟩ := h
  have e1 : z'.1 id = z.1 id := hf.1 id (fun hm => by have := hi _ hm; omega)
  have e2 : z'.1 (id + 1) = z.1 (id + 1) := hf.1 (id + 1) (fun hm => by have := hi _ hm; omega)
  exact ⟨h1, by rw [e2]; exact h2, by rw [e1]; exact h3, by rw [e1]; exact h4, h5⟩
theorem psS_su {z : pvM} {id : Nat} {A : Aut} (h : psS z id A) {set a v : Int} (ha : 0 ≤ a ∧ a ≤ 2) (hv : 0 ≤ v ∧ v < 216) : suN (z.1 (id + 1) (216 * a + v).toNat) set = sbF A set a v ∧ 0 ≤ z.1 (id + 1) (216 * a + v).toNat ∧ z.1 (id + 1) (216 * a + v).toNat ≤ 65535 := by
  obtain ⟨a', ea⟩ : ∃ n : Nat, a = n := ⟨a.toNat, by omega⟩
  obtain ⟨v', ev⟩ : ∃ n : Nat, v = n := ⟨v.toNat, by omega⟩
  subst ea ev
  have n1 : (216 * (a' : Int) + (v' : Int)).toNat = 216 * a' + v' := by omega
  rw [n1]
  exact ⟨su_eq h.2.1 h.2.2.2.2 (by omega) (by omega), (h.2.1 a' v' (by omega) (by omega)).1⟩
def C_X5_expand : pvC
  | [.inr (.inr (.inl id)), .inr (.inr (.inl p)), .inr (.inr (.inl q)), .inl c], z, Q => id = 28 ∧ ∃ (A B : Aut) (Qs : List Int), (quF z Qs ∧ psS z p A ∧ psS z q B ∧ okQ c) ∧
      ∀ (z' : pvM) (Qs' : List Int), frF [28, 29, 30] [] z z' → quF z' Qs' → (∃ M, Qs' = Qs ++ M) → (∀ x, x ∈ Qs' ↔ x ∈ Qs ∨ ∃ a d : Int, (0 ≤ a ∧ a ≤ 2) ∧ (0 ≤ d ∧ d ≤ 4) ∧ stF1 A B c a d = x ∧ 0 ≤ x) → Q (.inl none) z'
  | _, _, _ => False
def bX5_expand : Nat → List (Instr × Nat)
  | 0 => [(.iload_n 3, 1), (.bipush 16, 2), (.idiv, 1), (.bipush 16, 2), (.irem, 1), (.istore 4, 2), (.iload_n 3, 1), (.bipush 16, 2), (.irem, 1), (.istore 5, 2), (.iconst 0, 1), (.istore 6, 2)]
  | 18 => [(.iload 6, 2), (.iconst 4, 1), (.if_icmp .gt 76, 3), (.iload_n 3, 1), (.sipush 256, 3), (.idiv, 1), (.iload 6, 2), (.invokestatic 89, 3), (.istore 7, 2), (.iconst 0, 1), (.istore 8, 2)]
  | 39 => [(.iload 8, 2), (.iconst 3, 1), (.if_icmp .ge 49, 3), (.aload_n 1, 1), (.iload 4, 2), (.iload 8, 2), (.iload 7, 2), (.invokevirtual 92, 3), (.istore 9, 2), (.iload 9, 2), (.ifCond .eq 26, 3), (.aload_n 0, 1), (.iload 7, 2), (.iload 8, 2), (.invokestatic 96, 3), (.iload 9, 2), (.aload_n 2, 1), (.iload 5, 2), (.iload 8, 2), (.iload 7, 2), (.invokevirtual 92, 3), (.invokevirtual 55, 3)]
  | 85 => [(.iinc 8 1, 3), (.goto (-49), 3)]
  | 91 => [(.iinc 6 1, 3), (.goto (-76), 3)]
  | 97 => [(.return_, 1)]
  | _ => []
def uX5_expand : Nat → Option (List Bool)
  | 18 => some [true, true, true, true, true, true, true, false, false, false]
  | 39 => some [true, true, true, true, true, true, true, true, true, false]
  | _ => none
def aX5_expand : pvCa
  | 55 => some (4, false, 5, 0, C_X5_enter)
  | 89 => some (2, true, 0, 0, C_X7_later)
  | 92 => some (4, false, 3, 0, C_X3_successor)
  | 96 => some (2, true, 0, 0, C_X7_withZero)
  | _ => none
theorem bX5_expand_0 : bX5_expand 0 = [(.iload_n 3, 1), (.bipush 16, 2), (.idiv, 1), (.bipush 16, 2), (.irem, 1), (.istore 4, 2), (.iload_n 3, 1), (.bipush 16, 2), (.irem, 1), (.istore 5, 2), (.iconst 0, 1), (.istore 6, 2)] := rfl
theorem uX5_expand_0 : uX5_expand 0 = none := rfl
theorem bX5_expand_18 : bX5_expand 18 = [(.iload 6, 2), (.iconst 4, 1), (.if_icmp .gt 76, 3), (.iload_n 3, 1), (.sipush 256, 3), (.idiv, 1), (.iload 6, 2), (.invokestatic 89, 3), (.istore 7, 2), (.iconst 0, 1), (.istore 8, 2)] := rfl
theorem uX5_expand_18 : uX5_expand 18 = some [true, true, true, true, true, true, true, false, false, false] := rfl
theorem bX5_expand_39 : bX5_expand 39 = [(.iload 8, 2), (.iconst 3, 1), (.if_icmp .ge 49, 3), (.aload_n 1, 1), (.iload 4, 2), (.iload 8, 2), (.iload 7, 2), (.invokevirtual 92, 3), (.istore 9, 2), (.iload 9, 2), (.ifCond .eq 26, 3), (.aload_n 0, 1), (.iload 7, 2), (.iload 8, 2), (.invokestatic 96, 3), (.iload 9, 2), (.aload_n 2, 1), (.iload 5, 2), (.iload 8, 2), (.iload 7, 2), (.invokevirtual 92, 3), (.invokevirtual 55, 3)] := rfl
theorem uX5_expand_39 : uX5_expand 39 = some [true, true, true, true, true, true, true, true, true, false] := rfl
theorem bX5_expand_85 : bX5_expand 85 = [(.iinc 8 1, 3), (.goto (-49), 3)] := rfl
theorem uX5_expand_85 : uX5_expand 85 = none := rfl
theorem bX5_expand_91 : bX5_expand 91 = [(.iinc 6 1, 3), (.goto (-76), 3)] := rfl
theorem uX5_expand_91 : uX5_expand 91 = none := rfl
theorem bX5_expand_97 : bX5_expand 97 = [(.return_, 1)] := rfl
theorem uX5_expand_97 : uX5_expand 97 = none := rfl
theorem aX5_expand_55 : aX5_expand 55 = some (4, false, 5, 0, C_X5_enter) := rfl
theorem aX5_expand_89 : aX5_expand 89 = some (2, true, 0, 0, C_X7_later) := rfl
theorem aX5_expand_92 : aX5_expand 92 = some (4, false, 3, 0, C_X3_successor) := rfl
theorem aX5_expand_96 : aX5_expand 96 = some (2, true, 0, 0, C_X7_withZero) := rfl
set_option maxRecDepth 100000 in
set_option maxHeartbeats 4000000 in
theorem okX5_expand : pvOkM fX5 aX5_expand kX5 eX5 none bX5_expand uX5_expand 10 C_X5_expand := by
  intro Q SW hc as z h hS hz
  unfold C_X5_expand at h
  split at h
  · rename_i id p q c
    obtain ⟨rfl, A, B, Qs, ⟨hq, hA, hB, hok⟩, h2⟩ := h
    have hc0 := hok.1
    have hcv := hok.2.1
    have hshp := pvSh_ps hA.1
    have hshq := pvSh_ps hB.1
    have hplt : p < 58 := by have := hA.1; omega
    have hqlt : q < 58 := by have := hB.1; omega
    have hid1 := hA.1
    have hid2 := hB.1
    refine ⟨Nat.le_of_ble_eq_true rfl, ?_⟩
    have outer : ∀ (md d : Nat) (z' : pvM) (Qs' : List Int), d + md = 5 → frF [28, 29, 30] [] z z' → quF z' Qs' → (∃ M, Qs' = Qs ++ M) → (∀ x, x ∈ Qs' ↔ x ∈ Qs ∨ ∃ a d' : Int, (0 ≤ a ∧ a ≤ 2) ∧ (0 ≤ d' ∧ d' < d) ∧ stF1 A B c a d' = x ∧ 0 ≤ x) →
        SW 18 [some (vR 28), some (vR p), some (vR q), some (vI c), some (vI (c / 16 % 16)), some (vI (c % 16)), some (vI (d : Int)), none, none, none] z' := by
      intro md
      induction md using Nat.strongRecOn with
      | _ md ihd =>
        intro d z' Qs' hd f1 hq' hM hX
        have hv := psF_r (v := c / 256) (d := (d : Int)) (by omega)
        have inner : d < 5 → ∀ (ma a : Nat) (z' : pvM) (Qs' : List Int), a + ma = 3 → frF [28, 29, 30] [] z z' → quF z' Qs' → (∃ M, Qs' = Qs ++ M) → (∀ x, x ∈ Qs' ↔ x ∈ Qs ∨ ∃ a' d' : Int, (0 ≤ a' ∧ a' ≤ 2) ∧ (0 ≤ d' ∧ (d' < d ∨ d' = d ∧ a' < a)) ∧ stF1 A B c a' d' = x ∧ 0 ≤ x) →
            SW 39 [some (vR 28), some (vR p), some (vR q), some (vI c), some (vI (c / 16 % 16)), some (vI (c % 16)), some (vI (d : Int)), some (vI (psF (c / 256) d)), some (vI (a : Int)), none] z' := by
          intro hd5 ma
          induction ma using Nat.strongRecOn with
          | _ ma iha =>
            intro a z' Qs' ha f1 hq' hM hX
            refine hc 20 _ _ _ fun _ _ => ?_
            by_cases ha3 : 3 ≤ a
            · have q9 := ihd (md - 1) (by omega) (d + 1) z' Qs' (by omega) f1 hq' hM (fun x => by
                rw [hX x]
                refine or_congr Iff.rfl (exists_congr fun a' => exists_congr fun d' => ?_)
                constructor
                · rintro ⟨h1, h2, h3⟩; exact ⟨h1, by omega, h3⟩
                · rintro ⟨h1, h2, h3⟩; exact ⟨h1, by omega, h3⟩)
              simp only [pvSt1]
              simp only [pvE_iload_n3, pvLI_s, pvLd, pvE_bipush, pvE_idiv, pvE_irem, pvE_istore, pvS1, List.length_cons, List.length_nil, pvClr_i, pvClr_r, pvClr_l, pvClr_d, pvClr_f, pvClr_n, pvE_iconst, pvE_iload, pvE_icmp_gt, pvE_sipush, pvE_invokestatic (h0 := eX5_89), pvC1_s, pvC2_s, pvAf_v, pvAf_x, pvPop, pvCs, pvCat, pvPush, aX5_expand_89, pvE_icmp_ge, pvE_aload_n1, pvLA_s, pvE_invokevirtual, aX5_expand_92, pvSh_0, pvSh_1, pvSh_2, pvSh_3, pvSh_4, pvSh_5, pvSh_6, pvSh_7, pvSh_8, pvSh_9, pvSh_10, pvSh_11, pvSh_12, pvSh_13, pvSh_14, pvSh_15, pvSh_16, pvSh_17, pvSh_18, pvSh_19, pvSh_20, pvSh_21, pvSh_22, pvSh_23, pvSh_24, pvSh_25, pvSh_26, pvSh_27, pvSh_28, pvSh_29, pvSh_30, pvSh_31, pvSh_32, pvSh_33, pvSh_34, pvSh_35, pvSh_36, pvSh_37, pvSh_38, pvE_if_eq, pvE_aload_n0, pvE_invokestatic (h0 := eX5_96), aX5_expand_96, pvE_aload_n2, aX5_expand_55, pvE_iinc, pvIc_s, pvE_goto, pvE_return, bX5_expand_0, uX5_expand_0, bX5_expand_18, uX5_expand_18, bX5_expand_39, uX5_expand_39, bX5_expand_85, uX5_expand_85, bX5_expand_91, uX5_expand_91, bX5_expand_97, uX5_expand_97, pvMk_t, pvMk_f, pvMk_n, pvRtG, pvRecv_r, pvUp_nl, pvUp_same, pvUp_ap, pvSt_ap, pvX_c, pvX_ms, pvX_mn, pvE_nil, pvEn_i, pvEn_r, pvEn_l, pvEn_0, pvEn_s, pvRt, pvRv, pvTh, pvKc, pvGo, pvTgt, Int.toNat_natCast, false_and, and_false, true_and, and_true, if_true, if_false, reduceIte, reduceCtorEq, forall_const, false_or, or_false, true_or, or_true, ne_eq, not_true_eq_false, not_false_eq_true, implies_true, false_implies, Nat.reduceAdd, Nat.reduceSub, Nat.reduceMul, Nat.reduceEqDiff, Nat.reduceLT, Nat.reduceLeDiff, Int.reduceAdd, Int.reduceSub, Int.reduceMul, Int.reduceNeg, Int.reduceToNat, Int.reduceLE, Int.reduceLT, Int.reduceEq, Int.reduceNe, and_self]
              (repeat' first | with_reducible apply And.intro | with_reducible intro _)
              all_goals first
                | omega
                | exact q9
            · have hA' := psS_m hA f1 (by simp)
              have hB' := psS_m hB f1 (by simp)
              obtain ⟨s1, s2⟩ := psS_su hA' (set := c / 16 % 16) (a := (a : Int)) (v := psF (c / 256) d) (by omega) hv
              obtain ⟨s3, s4⟩ := psS_su hB' (set := c % 16) (a := (a : Int)) (v := psF (c / 256) d) (by omega) hv
              have r1 := sbF_r hA.2.2.2.2 (c / 16 % 16) (a : Int) (psF (c / 256) d)
              have r2 := sbF_r hB.2.2.2.2 (c % 16) (a : Int) (psF (c / 256) d)
              have hrs := rs_ok hv (a := (a : Int)) (by omega)
              have est : stF1 A B c (a : Int) (d : Int) = if sbF A (c / 16 % 16) (a : Int) (psF (c / 256) d) = 0 then -1 else 256 * rsF (psF (c / 256) d) a + 16 * sbF A (c / 16 % 16) a (psF (c / 256) d) + sbF B (c % 16) a (psF (c / 256) d) := rfl
              simp only [pvSt1]
              simp only [C_X3_successor, C_X7_withZero, C_X5_enter, s1, s3, hshp, hshq, pvE_iload_n3, pvLI_s, pvLd, pvE_bipush, pvE_idiv, pvE_irem, pvE_istore, pvS1, List.length_cons, List.length_nil, pvClr_i, pvClr_r, pvClr_l, pvClr_d, pvClr_f, pvClr_n, pvE_iconst, pvE_iload, pvE_icmp_gt, pvE_sipush, pvE_invokestatic (h0 := eX5_89), pvC1_s, pvC2_s, pvAf_v, pvAf_x, pvPop, pvCs, pvCat, pvPush, aX5_expand_89, pvE_icmp_ge, pvE_aload_n1, pvLA_s, pvE_invokevirtual, aX5_expand_92, pvSh_0, pvSh_1, pvSh_2, pvSh_3, pvSh_4, pvSh_5, pvSh_6, pvSh_7, pvSh_8, pvSh_9, pvSh_10, pvSh_11, pvSh_12, pvSh_13, pvSh_14, pvSh_15, pvSh_16, pvSh_17, pvSh_18, pvSh_19, pvSh_20, pvSh_21, pvSh_22, pvSh_23, pvSh_24, pvSh_25, pvSh_26, pvSh_27, pvSh_28, pvSh_29, pvSh_30, pvSh_31, pvSh_32, pvSh_33, pvSh_34, pvSh_35, pvSh_36, pvSh_37, pvSh_38, pvE_if_eq, pvE_aload_n0, pvE_invokestatic (h0 := eX5_96), aX5_expand_96, pvE_aload_n2, aX5_expand_55, pvE_iinc, pvIc_s, pvE_goto, pvE_return, bX5_expand_0, uX5_expand_0, bX5_expand_18, uX5_expand_18, bX5_expand_39, uX5_expand_39, bX5_expand_85, uX5_expand_85, bX5_expand_91, uX5_expand_91, bX5_expand_97, uX5_expand_97, pvMk_t, pvMk_f, pvMk_n, pvRtG, pvRecv_r, pvUp_nl, pvUp_same, pvUp_ap, pvSt_ap, pvX_c, pvX_ms, pvX_mn, pvE_nil, pvEn_i, pvEn_r, pvEn_l, pvEn_0, pvEn_s, pvRt, pvRv, pvTh, pvKc, pvGo, pvTgt, Int.toNat_natCast, false_and, and_false, true_and, and_true, if_true, if_false, reduceIte, reduceCtorEq, forall_const, false_or, or_false, true_or, or_true, ne_eq, not_true_eq_false, not_false_eq_true, implies_true, false_implies, Nat.reduceAdd, Nat.reduceSub, Nat.reduceMul, Nat.reduceEqDiff, Nat.reduceLT, Nat.reduceLeDiff, Int.reduceAdd, Int.reduceSub, Int.reduceMul, Int.reduceNeg, Int.reduceToNat, Int.reduceLE, Int.reduceLT, Int.reduceEq, Int.reduceNe, and_self]
              by_cases e0 : sbF A (c / 16 % 16) (a : Int) (psF (c / 256) d) = 0
              · rw [if_pos e0] at est
                have q9 := iha (ma - 1) (by omega) (a + 1) z' Qs' (by omega) f1 hq' hM (fun x => by
                  rw [hX x]
                  refine or_congr Iff.rfl (exists_congr fun a' => exists_congr fun d' => ?_)
                  constructor
                  · rintro ⟨h1, h2, h3⟩; exact ⟨h1, by omega, h3⟩
                  · rintro ⟨h1, h2, h3, h4⟩
                    refine ⟨h1, ?_, h3, h4⟩
                    by_cases ea : d' = d ∧ a' = a
                    · obtain ⟨rfl, rfl⟩ := ea
                      rw [est] at h3
                      omega
                    · omega)
                (repeat' first | with_reducible apply And.intro | with_reducible intro _)
                all_goals first
                  | omega
                  | contradiction
                  | exact q9
              · rw [if_neg e0] at est
                have q9 : ∀ z'' : pvM, frF [28, 29, 30] [] z' z'' → quF z'' (insF Qs' (256 * rsF (psF (c / 256) d) a + 16 * sbF A (c / 16 % 16) a (psF (c / 256) d) + sbF B (c % 16) a (psF (c / 256) d))) →
                    SW 39 [some (vR 28), some (vR p), some (vR q), some (vI c), some (vI (c / 16 % 16)), some (vI (c % 16)), some (vI (d : Int)), some (vI (psF (c / 256) d)), some (vI ((a : Int) + 1)), none] z'' := by
                  intro z'' f2 hq''
                  obtain ⟨M, eM⟩ := hM
                  obtain ⟨M', eM'⟩ := insF_p Qs' (256 * rsF (psF (c / 256) d) a + 16 * sbF A (c / 16 % 16) a (psF (c / 256) d) + sbF B (c % 16) a (psF (c / 256) d))
                  refine iha (ma - 1) (by omega) (a + 1) z'' _ (by omega) (frF_t f1 f2 (fun _ h => h) (fun _ h => h)) hq'' ⟨M ++ M', by rw [eM', eM, List.append_assoc]⟩ (fun x => ?_)
                  rw [insF_m, hX x, or_assoc]
                  refine or_congr Iff.rfl ?_
                  constructor
                  · rintro (⟨a', d', h1, h2, h3⟩ | h)
                    · exact ⟨a', d', h1, by omega, h3⟩
                    · refine ⟨a, d, by omega, by omega, by rw [est]; exact h.symm, ?_⟩
                      have := hrs.1
                      omega
                  · rintro ⟨a', d', h1, h2, h3, h4⟩
                    by_cases ea : d' = d ∧ a' = a
                    · obtain ⟨rfl, rfl⟩ := ea
                      rw [est] at h3
                      exact Or.inr h3.symm
                    · exact Or.inl ⟨a', d', h1, by omega, h3, h4⟩
                (repeat' first | with_reducible apply And.intro | with_reducible intro _)
                all_goals first
                  | omega
                  | contradiction
                  | (refine ⟨Qs', ⟨hq', hrs, r1, r2⟩, fun z'' f2 hq'' => ?_⟩
                     have := q9 z'' f2 hq''
                     first
                       | exact this
                       | exact ⟨by omega, this⟩)
        refine hc 20 _ _ _ fun _ _ => ?_
        simp only [pvSt1]
        simp only [C_X7_later, pvE_iload_n3, pvLI_s, pvLd, pvE_bipush, pvE_idiv, pvE_irem, pvE_istore, pvS1, List.length_cons, List.length_nil, pvClr_i, pvClr_r, pvClr_l, pvClr_d, pvClr_f, pvClr_n, pvE_iconst, pvE_iload, pvE_icmp_gt, pvE_sipush, pvE_invokestatic (h0 := eX5_89), pvC1_s, pvC2_s, pvAf_v, pvAf_x, pvPop, pvCs, pvCat, pvPush, aX5_expand_89, pvE_icmp_ge, pvE_aload_n1, pvLA_s, pvE_invokevirtual, aX5_expand_92, pvSh_0, pvSh_1, pvSh_2, pvSh_3, pvSh_4, pvSh_5, pvSh_6, pvSh_7, pvSh_8, pvSh_9, pvSh_10, pvSh_11, pvSh_12, pvSh_13, pvSh_14, pvSh_15, pvSh_16, pvSh_17, pvSh_18, pvSh_19, pvSh_20, pvSh_21, pvSh_22, pvSh_23, pvSh_24, pvSh_25, pvSh_26, pvSh_27, pvSh_28, pvSh_29, pvSh_30, pvSh_31, pvSh_32, pvSh_33, pvSh_34, pvSh_35, pvSh_36, pvSh_37, pvSh_38, pvE_if_eq, pvE_aload_n0, pvE_invokestatic (h0 := eX5_96), aX5_expand_96, pvE_aload_n2, aX5_expand_55, pvE_iinc, pvIc_s, pvE_goto, pvE_return, bX5_expand_0, uX5_expand_0, bX5_expand_18, uX5_expand_18, bX5_expand_39, uX5_expand_39, bX5_expand_85, uX5_expand_85, bX5_expand_91, uX5_expand_91, bX5_expand_97, uX5_expand_97, pvMk_t, pvMk_f, pvMk_n, pvRtG, pvRecv_r, pvUp_nl, pvUp_same, pvUp_ap, pvSt_ap, pvX_c, pvX_ms, pvX_mn, pvE_nil, pvEn_i, pvEn_r, pvEn_l, pvEn_0, pvEn_s, pvRt, pvRv, pvTh, pvKc, pvGo, pvTgt, Int.toNat_natCast, false_and, and_false, true_and, and_true, if_true, if_false, reduceIte, reduceCtorEq, forall_const, false_or, or_false, true_or, or_true, ne_eq, not_true_eq_false, not_false_eq_true, implies_true, false_implies, Nat.reduceAdd, Nat.reduceSub, Nat.reduceMul, Nat.reduceEqDiff, Nat.reduceLT, Nat.reduceLeDiff, Int.reduceAdd, Int.reduceSub, Int.reduceMul, Int.reduceNeg, Int.reduceToNat, Int.reduceLE, Int.reduceLT, Int.reduceEq, Int.reduceNe, and_self]
        by_cases hd5 : 5 ≤ d
        · have q9 := h2 z' Qs' f1 hq' hM (fun x => by
            rw [hX x]
            refine or_congr Iff.rfl (exists_congr fun a' => exists_congr fun d' => ?_)
            constructor
            · rintro ⟨h1, h2, h3⟩; exact ⟨h1, by omega, h3⟩
            · rintro ⟨h1, h2, h3⟩; exact ⟨h1, by omega, h3⟩)
          (repeat' first | with_reducible apply And.intro | with_reducible intro _)
          all_goals first
            | omega
            | exact q9
        · have q9 := inner (by omega) 3 0 z' Qs' (by omega) f1 hq' hM (fun x => by
            rw [hX x]
            refine or_congr Iff.rfl (exists_congr fun a' => exists_congr fun d' => ?_)
            constructor
            · rintro ⟨h1, h2, h3⟩; exact ⟨h1, by omega, h3⟩
            · rintro ⟨h1, h2, h3⟩; exact ⟨h1, by omega, h3⟩)
          (repeat' first | with_reducible apply And.intro | with_reducible intro _)
          all_goals first
            | omega
            | exact q9
    refine hc 20 _ _ _ fun _ _ => ?_
    simp only [pvSt1]
    simp only [pvE_iload_n3, pvLI_s, pvLd, pvE_bipush, pvE_idiv, pvE_irem, pvE_istore, pvS1, List.length_cons, List.length_nil, pvClr_i, pvClr_r, pvClr_l, pvClr_d, pvClr_f, pvClr_n, pvE_iconst, pvE_iload, pvE_icmp_gt, pvE_sipush, pvE_invokestatic (h0 := eX5_89), pvC1_s, pvC2_s, pvAf_v, pvAf_x, pvPop, pvCs, pvCat, pvPush, aX5_expand_89, pvE_icmp_ge, pvE_aload_n1, pvLA_s, pvE_invokevirtual, aX5_expand_92, pvSh_0, pvSh_1, pvSh_2, pvSh_3, pvSh_4, pvSh_5, pvSh_6, pvSh_7, pvSh_8, pvSh_9, pvSh_10, pvSh_11, pvSh_12, pvSh_13, pvSh_14, pvSh_15, pvSh_16, pvSh_17, pvSh_18, pvSh_19, pvSh_20, pvSh_21, pvSh_22, pvSh_23, pvSh_24, pvSh_25, pvSh_26, pvSh_27, pvSh_28, pvSh_29, pvSh_30, pvSh_31, pvSh_32, pvSh_33, pvSh_34, pvSh_35, pvSh_36, pvSh_37, pvSh_38, pvE_if_eq, pvE_aload_n0, pvE_invokestatic (h0 := eX5_96), aX5_expand_96, pvE_aload_n2, aX5_expand_55, pvE_iinc, pvIc_s, pvE_goto, pvE_return, bX5_expand_0, uX5_expand_0, bX5_expand_18, uX5_expand_18, bX5_expand_39, uX5_expand_39, bX5_expand_85, uX5_expand_85, bX5_expand_91, uX5_expand_91, bX5_expand_97, uX5_expand_97, pvMk_t, pvMk_f, pvMk_n, pvRtG, pvRecv_r, pvUp_nl, pvUp_same, pvUp_ap, pvSt_ap, pvX_c, pvX_ms, pvX_mn, pvE_nil, pvEn_i, pvEn_r, pvEn_l, pvEn_0, pvEn_s, pvRt, pvRv, pvTh, pvKc, pvGo, pvTgt, Int.toNat_natCast, false_and, and_false, true_and, and_true, if_true, if_false, reduceIte, reduceCtorEq, forall_const, false_or, or_false, true_or, or_true, ne_eq, not_true_eq_false, not_false_eq_true, implies_true, false_implies, Nat.reduceAdd, Nat.reduceSub, Nat.reduceMul, Nat.reduceEqDiff, Nat.reduceLT, Nat.reduceLeDiff, Int.reduceAdd, Int.reduceSub, Int.reduceMul, Int.reduceNeg, Int.reduceToNat, Int.reduceLE, Int.reduceLT, Int.reduceEq, Int.reduceNe, and_self]
    (repeat' first | with_reducible apply And.intro | with_reducible intro _)
    all_goals first
      | omega
      | exact outer 5 0 z Qs rfl frF_0 hq ⟨[], (List.append_nil _).symm⟩ (fun x => ⟨Or.inl, fun h => h.elim id fun ⟨a, d, _, h9, _⟩ => by omega⟩)
  · exact h.elim

