/-! the reference's search: costs, the word taken -/
/-- a search done that has found level F -/
def shF (A B : Aut) (z : pvM) (Qs : List Int) (F : Nat) : Prop := rqF A B z Qs ∧ (0 < Qs.length ∧ ndF Qs 0 = c0F A B) ∧ (∀ j k, j ≤ k → k < Qs.length → lvN A B (ndF Qs j) ≤ lvN A B (ndF Qs k)) ∧ z.1 39 27 = F ∧ F < 23552 ∧ ∀ n, n ≤ F → ∀ c, rcK A B n c → c ∈ Qs
/-- the costs of the levels up to F -/
def rcP (A B : Aut) (z : pvM) (Qs : List Int) (F : Nat) : Prop := ∀ c ∈ Qs, lvN A B c ≤ F → z.1 54 (ndC c).toNat = coK A B F (F - lvN A B c) c
theorem sh_lq {A B : Aut} {z : pvM} {Qs : List Int} {F n : Nat} {x : Int} (h : shF A B z Qs F) (hn : n ≤ F) : lqF A B n x ↔ x ∈ Qs ∧ lvN A B x = n := by
  obtain ⟨h1, -, -, -, -, h6⟩ := h
  constructor
  · intro hl
    exact ⟨h6 n hn x hl.1, lvN_eq hl⟩
  · rintro ⟨hm, e⟩
    rw [← e]
    exact (h1.2.2.2.2 x hm).2
theorem sh_m {A B : Aut} {z z' : pvM} {Qs : List Int} {F : Nat} (h : shF A B z Qs F) (h26 : z'.1 39 26 = z.1 39 26) (h27 : z'.1 39 27 = z.1 39 27) (h53 : z'.1 53 = z.1 53) (h55 : z'.1 55 = z.1 55) : shF A B z' Qs F := by
  unfold shF rqF at h ⊢
  rw [h26, h27, h53, h55]
  exact h
def C_X10_costs : pvC
  | [.inr (.inr (.inl id)), .inl s], z, Q => id = 39 ∧ ∃ (A B : Aut) (Qs : List Int) (F : Nat), (srP z s A B ∧ shF A B z Qs F) ∧
      ∀ z' : pvM, frF [54] [] z z' → rcP A B z' Qs F → Q (.inl none) z'
  | _, _, _ => False
def bX10_costs : Nat → List (Instr × Nat)
  | 0 => [(.aload_n 0, 1), (.getfield 225, 3), (.iconst 1, 1), (.isub, 1), (.istore_n 2, 1)]
  | 7 => [(.iload_n 2, 1), (.ifCond .lt 171, 3), (.aload_n 0, 1), (.getfield 60, 3), (.iload_n 2, 1), (.iaload, 1), (.istore_n 3, 1), (.aload_n 0, 1), (.getfield 57, 3), (.iload_n 3, 1), (.aload_n 0, 1), (.getfield 54, 3), (.iload_n 3, 1), (.iaload, 1), (.aload_n 0, 1), (.getfield 228, 3), (.if_icmp .ne 16, 3), (.aload_n 0, 1), (.iload_n 1, 1), (.iload_n 3, 1), (.invokevirtual 231, 3), (.ifCond .eq 7, 3), (.iconst 0, 1), (.goto 6, 3)]
  | 49 => [(.sipush 1000, 3)]
  | 52 => [(.iastore, 1), (.aload_n 0, 1), (.iload_n 3, 1), (.sipush 256, 3), (.idiv, 1), (.invokevirtual 237, 3), (.istore 4, 2), (.iconst 0, 1), (.istore 5, 2)]
  | 67 => [(.iload 5, 2), (.bipush 15, 2), (.if_icmp .ge 102, 3), (.aload_n 0, 1), (.getfield 54, 3), (.iload_n 3, 1), (.iaload, 1), (.aload_n 0, 1), (.getfield 228, 3), (.if_icmp .ge 89, 3), (.aload_n 0, 1), (.iload_n 1, 1), (.iload_n 3, 1), (.iload 4, 2), (.iload 5, 2), (.iconst 5, 1), (.idiv, 1), (.iload 5, 2), (.iconst 5, 1), (.irem, 1), (.invokevirtual 240, 3), (.istore 6, 2), (.iload 6, 2), (.ifCond .lt 60, 3), (.aload_n 0, 1), (.getfield 54, 3), (.iload 6, 2), (.iaload, 1), (.aload_n 0, 1), (.getfield 54, 3), (.iload_n 3, 1), (.iaload, 1), (.iconst 1, 1), (.iadd, 1), (.if_icmp .ne 42, 3), (.aload_n 0, 1), (.getfield 57, 3), (.iload 6, 2), (.iaload, 1), (.iload 5, 2), (.iconst 5, 1), (.irem, 1), (.iadd, 1), (.aload_n 0, 1), (.getfield 57, 3), (.iload_n 3, 1), (.iaload, 1), (.if_icmp .ge 21, 3), (.aload_n 0, 1), (.getfield 57, 3), (.iload_n 3, 1), (.aload_n 0, 1), (.getfield 57, 3), (.iload 6, 2), (.iaload, 1), (.iload 5, 2), (.iconst 5, 1), (.irem, 1), (.iadd, 1), (.iastore, 1)]
  | 167 => [(.iinc 5 1, 3), (.goto (-103), 3)]
  | 173 => [(.iinc 2 (-1), 3), (.goto (-169), 3)]
  | 179 => [(.return_, 1)]
  | _ => []
def uX10_costs : Nat → Option (List Bool)
  | 7 => some [true, true, true, false, false, false, false]
  | 67 => some [true, true, true, true, true, true, false]
  | _ => none
def aX10_costs : pvCa
  | 231 => some (3, false, 9, 0, C_X10_isGoal)
  | 237 => some (2, false, 9, 0, C_X10_valueOf)
  | 240 => some (6, false, 9, 0, C_X10_follows)
  | _ => none
theorem bX10_costs_0 : bX10_costs 0 = [(.aload_n 0, 1), (.getfield 225, 3), (.iconst 1, 1), (.isub, 1), (.istore_n 2, 1)] := rfl
theorem uX10_costs_0 : uX10_costs 0 = none := rfl
theorem bX10_costs_7 : bX10_costs 7 = [(.iload_n 2, 1), (.ifCond .lt 171, 3), (.aload_n 0, 1), (.getfield 60, 3), (.iload_n 2, 1), (.iaload, 1), (.istore_n 3, 1), (.aload_n 0, 1), (.getfield 57, 3), (.iload_n 3, 1), (.aload_n 0, 1), (.getfield 54, 3), (.iload_n 3, 1), (.iaload, 1), (.aload_n 0, 1), (.getfield 228, 3), (.if_icmp .ne 16, 3), (.aload_n 0, 1), (.iload_n 1, 1), (.iload_n 3, 1), (.invokevirtual 231, 3), (.ifCond .eq 7, 3), (.iconst 0, 1), (.goto 6, 3)] := rfl
theorem uX10_costs_7 : uX10_costs 7 = some [true, true, true, false, false, false, false] := rfl
theorem bX10_costs_49 : bX10_costs 49 = [(.sipush 1000, 3)] := rfl
theorem uX10_costs_49 : uX10_costs 49 = none := rfl
theorem bX10_costs_52 : bX10_costs 52 = [(.iastore, 1), (.aload_n 0, 1), (.iload_n 3, 1), (.sipush 256, 3), (.idiv, 1), (.invokevirtual 237, 3), (.istore 4, 2), (.iconst 0, 1), (.istore 5, 2)] := rfl
theorem uX10_costs_52 : uX10_costs 52 = none := rfl
theorem bX10_costs_67 : bX10_costs 67 = [(.iload 5, 2), (.bipush 15, 2), (.if_icmp .ge 102, 3), (.aload_n 0, 1), (.getfield 54, 3), (.iload_n 3, 1), (.iaload, 1), (.aload_n 0, 1), (.getfield 228, 3), (.if_icmp .ge 89, 3), (.aload_n 0, 1), (.iload_n 1, 1), (.iload_n 3, 1), (.iload 4, 2), (.iload 5, 2), (.iconst 5, 1), (.idiv, 1), (.iload 5, 2), (.iconst 5, 1), (.irem, 1), (.invokevirtual 240, 3), (.istore 6, 2), (.iload 6, 2), (.ifCond .lt 60, 3), (.aload_n 0, 1), (.getfield 54, 3), (.iload 6, 2), (.iaload, 1), (.aload_n 0, 1), (.getfield 54, 3), (.iload_n 3, 1), (.iaload, 1), (.iconst 1, 1), (.iadd, 1), (.if_icmp .ne 42, 3), (.aload_n 0, 1), (.getfield 57, 3), (.iload 6, 2), (.iaload, 1), (.iload 5, 2), (.iconst 5, 1), (.irem, 1), (.iadd, 1), (.aload_n 0, 1), (.getfield 57, 3), (.iload_n 3, 1), (.iaload, 1), (.if_icmp .ge 21, 3), (.aload_n 0, 1), (.getfield 57, 3), (.iload_n 3, 1), (.aload_n 0, 1), (.getfield 57, 3), (.iload 6, 2), (.iaload, 1), (.iload 5, 2), (.iconst 5, 1), (.irem, 1), (.iadd, 1), (.iastore, 1)] := rfl
theorem uX10_costs_67 : uX10_costs 67 = some [true, true, true, true, true, true, false] := rfl
theorem bX10_costs_167 : bX10_costs 167 = [(.iinc 5 1, 3), (.goto (-103), 3)] := rfl
theorem uX10_costs_167 : uX10_costs 167 = none := rfl
theorem bX10_costs_173 : bX10_costs 173 = [(.iinc 2 (-1), 3), (.goto (-169), 3)] := rfl
theorem uX10_costs_173 : uX10_costs 173 = none := rfl
theorem bX10_costs_179 : bX10_costs 179 = [(.return_, 1)] := rfl
theorem uX10_costs_179 : uX10_costs 179 = none := rfl
theorem aX10_costs_231 : aX10_costs 231 = some (3, false, 9, 0, C_X10_isGoal) := rfl
theorem aX10_costs_237 : aX10_costs 237 = some (2, false, 9, 0, C_X10_valueOf) := rfl
theorem aX10_costs_240 : aX10_costs 240 = some (6, false, 9, 0, C_X10_follows) := rfl
def mX10_costs : Room := { frames := 3, cells := 1, slots := 6, locals := 70 }
set_option maxRecDepth 100000 in
set_option maxHeartbeats 4000000 in
theorem okX10_costs : pvOkM fX10 aX10_costs kX10 eX10 none bX10_costs uX10_costs 7 C_X10_costs := by
  intro Q SW hc as z h hS hz
  unfold C_X10_costs at h
  split at h
  · rename_i id s
    obtain ⟨rfl, A, B, Qs, F, ⟨sr, sh⟩, h2⟩ := h
    obtain ⟨wA, wB⟩ := srP_w sr
    have rq := sh.1
    have hl5 := rq_len rq
    have e26 := rq.1
    have e27 := sh.2.2.2.1
    have hF5 := sh.2.2.2.2.1
    refine ⟨Nat.le_of_ble_eq_true rfl, ?_⟩
    have outer : ∀ (n : Nat) (z' : pvM), n ≤ Qs.length → frF [54] [] z z' → (∀ c ∈ Qs, n ≤ ixN Qs c → lvN A B c ≤ F → z'.1 54 (ndC c).toNat = coK A B F (F - lvN A B c) c) →
        SW 7 [some (vR 39), some (vI s), some (vI ((n : Int) - 1)), none, none, none, none] z' := by
      intro n
      induction n with
      | zero =>
        intro z' _ f1 o1
        have q9 := h2 z' f1 (fun c hc hl => o1 c hc (Nat.zero_le _) hl)
        refine hc 20 _ _ _ fun _ _ => ?_
        simp only [pvSt1]
        simp only [pvE_aload_n0, pvLA_s, pvLd, pvE_getfield, pvGf_0, pvGf_1, pvGf_2, fX10_225, pvSh_0, pvSh_1, pvSh_2, pvSh_3, pvSh_4, pvSh_5, pvSh_6, pvSh_7, pvSh_8, pvSh_9, pvSh_10, pvSh_11, pvSh_12, pvSh_13, pvSh_14, pvSh_15, pvSh_16, pvSh_17, pvSh_18, pvSh_19, pvSh_20, pvSh_21, pvSh_22, pvSh_23, pvSh_24, pvSh_25, pvSh_26, pvSh_27, pvSh_28, pvSh_29, pvSh_30, pvSh_31, pvSh_32, pvSh_33, pvSh_34, pvSh_35, pvSh_36, pvSh_37, pvSh_38, pvSh_39, pvSh_40, pvSh_41, pvSh_42, pvSh_43, pvSh_44, pvSh_45, pvSh_46, pvSh_47, pvSh_48, pvSh_49, pvSh_50, pvSh_51, pvSh_52, pvSh_53, pvSh_54, pvSh_55, pvSh_56, pvSh_57, pvSh_58, pvSh_59, pvRf_0_0, pvRf_0_1, pvRf_0_2, pvRf_0_3, pvRf_0_4, pvRf_0_5, pvRf_0_6, pvRf_0_7, pvRf_0_8, pvRf_0_9, pvRf_0_10, pvRf_1_0, pvRf_3_0, pvRf_5_0, pvRf_5_1, pvRf_5_2, pvRf_9_0, pvRf_9_1, pvRf_9_2, pvRf_13_0, pvRf_13_1, pvRf_13_2, pvRf_17_0, pvRf_17_2, pvRf_20_0, pvRf_20_1, pvRf_20_2, pvRf_24_0, pvRf_24_1, pvRf_24_2, pvRf_28_0, pvRf_28_1, pvRf_28_2, pvRf_28_3, pvRf_33_0, pvRf_33_1, pvRf_36_0, pvRf_36_1, pvRf_39_0, pvRf_39_1, pvRf_39_2, pvRf_39_5, pvRf_39_6, pvRf_39_9, pvRf_39_13, pvRf_39_15, pvRf_39_16, pvRf_39_17, pvRf_39_19, pvRf_39_20, pvRf_39_22, pvRf_39_23, pvRf_39_24, pvRf_39_25, pvRf_39_29, pvRf_39_30, pvE_iconst, pvE_isub, pvE_istore_n2, pvS1, List.length_cons, List.length_nil, pvClr_i, pvClr_r, pvClr_l, pvClr_d, pvClr_f, pvClr_n, pvE_iload_n2, pvLI_s, pvE_if_lt, fX10_60, pvE_iaload, pvAI, pvE_istore_n3, fX10_57, pvE_iload_n3, fX10_54, fX10_228, pvE_icmp_ne, pvE_iload_n1, pvE_invokevirtual, pvC1_s, pvC2_s, pvAf_v, pvAf_x, pvPop, pvCs, pvCat, pvPush, aX10_costs_231, pvE_if_eq, pvE_goto, pvE_sipush, pvE_iastore, pvE_idiv, aX10_costs_237, pvE_istore, pvE_iload, pvE_bipush, pvE_icmp_ge, pvE_irem, aX10_costs_240, pvE_iadd, pvE_iinc, pvIc_s, pvE_return, bX10_costs_0, uX10_costs_0, bX10_costs_7, uX10_costs_7, bX10_costs_49, uX10_costs_49, bX10_costs_52, uX10_costs_52, bX10_costs_67, uX10_costs_67, bX10_costs_167, uX10_costs_167, bX10_costs_173, uX10_costs_173, bX10_costs_179, uX10_costs_179, pvMk_t, pvMk_f, pvMk_n, pvRecv_r, pvUp_nl, pvUp_same, pvUp_ap, pvSt_ap, pvX_c, pvX_ms, pvX_mn, pvE_nil, pvEn_i, pvEn_r, pvEn_l, pvEn_0, pvEn_s, pvRt, pvRv, pvTh, pvKc, pvGo, pvTgt, Int.toNat_natCast, false_and, and_false, true_and, and_true, if_true, if_false, reduceIte, reduceCtorEq, forall_const, false_or, or_false, true_or, or_true, ne_eq, not_true_eq_false, not_false_eq_true, implies_true, false_implies, Nat.reduceAdd, Nat.reduceSub, Nat.reduceMul, Nat.reduceEqDiff, Nat.reduceLT, Nat.reduceLeDiff, Int.reduceAdd, Int.reduceSub, Int.reduceMul, Int.reduceNeg, Int.reduceToNat, Int.reduceLE, Int.reduceLT, Int.reduceEq, Int.reduceNe, and_self]
        (repeat' first | with_reducible apply And.intro | with_reducible intro _)
        all_goals first
          | omega
          | exact q9
      | succ i ih =>
        intro z' hil f1 o1
        have ei1 : ((i + 1 : Nat) : Int) - 1 = i := by omega
        rw [ei1]
        have g39 := f1.1 39 (by decide)
        have g53 := f1.1 53 (by decide)
        have g55 := f1.1 55 (by decide)
        have ei := rq.2.1 i (by omega)
        have hmi := ndF_m (L := Qs) (i := i) (by omega)
        obtain ⟨hoki, hlvi⟩ := rq.2.2.2.2 _ hmi
        have exi : ixN Qs (ndF Qs i) = i := by
          obtain ⟨x1, x2⟩ := ixN_lt hmi
          exact ndF_inj rq.2.2.2.1 x1 (by omega) x2
        obtain ⟨c, ec⟩ : ∃ c, ndF Qs i = c := ⟨_, rfl⟩
        rw [ec] at ei hmi hoki hlvi exi
        have hnr := nc_r hoki
        have edist := rq.2.2.1 _ hoki
        rw [if_pos hmi] at edist
        have hl23 : lvN A B c ≤ 30000 ∨ 30000 < lvN A B c := by omega
        have hpv := hz 53 (ndC c).toNat
        rw [edist] at hpv
        have nxt : ∀ z2 : pvM, frF [54] [] z z2 → (∀ c' ∈ Qs, i + 1 ≤ ixN Qs c' → lvN A B c' ≤ F → z2.1 54 (ndC c').toNat = coK A B F (F - lvN A B c') c') → (lvN A B c ≤ F → z2.1 54 (ndC c).toNat = coK A B F (F - lvN A B c) c) → SW 7 [some (vR 39), some (vI s), some (vI ((i : Int) - 1)), none, none, none, none] z2 := fun z2 f2 a1 a2 =>
          ih z2 (by omega) f2 (fun c' hc' hi' hl' => by
            by_cases e : ixN Qs c' = i
            · have : c' = c := by
                have h9 := (ixN_lt hc').2
                rw [e, ec] at h9
                exact h9.symm
              subst this
              exact a2 hl'
            · exact a1 c' hc' (by omega) hl')
        have keep : ∀ (z2 : pvM) (x : Int), frF [54] [] z z2 → (∀ c' ∈ Qs, i + 1 ≤ ixN Qs c' → lvN A B c' ≤ F → z2.1 54 (ndC c').toNat = coK A B F (F - lvN A B c') c') → (∀ c' ∈ Qs, i + 1 ≤ ixN Qs c' → lvN A B c' ≤ F → (pvUp z2.1 54 (ndC c).toNat x, z2.2).1 54 (ndC c').toNat = coK A B F (F - lvN A B c') c') := by
          intro z2 x f2 a1 c' hc' hi' hl'
          have hne : (ndC c').toNat ≠ (ndC c).toNat := fun e => by
            have hk := (rq.2.2.2.2 _ hc').1
            have := nc_inj hk hoki (by have := nc_r hk; omega)
            subst this
            omega
          show pvUp z2.1 54 (ndC c).toNat x 54 (ndC c').toNat = _
          rw [pvUp_ap, if_neg (fun q => hne q.2)]
          exact a1 c' hc' hi' hl'
        have inner : lvN A B c < F → ∀ (mk k : Nat) (z2 : pvM), k + mk = 15 → frF [54] [] z z2 → (∀ c' ∈ Qs, i + 1 ≤ ixN Qs c' → lvN A B c' ≤ F → z2.1 54 (ndC c').toNat = coK A B F (F - lvN A B c') c') → z2.1 54 (ndC c).toNat = mnK A B (lvN A B c + 1) (coK A B F (F - (lvN A B c + 1))) c k →
            SW 67 [some (vR 39), some (vI s), some (vI (i : Int)), some (vI (ndC c)), some (vI (c / 256)), some (vI (k : Int)), none] z2 := by
          intro hlF mk
          induction mk using Nat.strongRecOn with
          | _ mk ihk =>
            intro k z2 hk f2 a1 a2
            have g39 := f2.1 39 (by decide)
            have g53 := f2.1 53 (by decide)
            have eF : F - lvN A B c = F - (lvN A B c + 1) + 1 := by omega
            by_cases hk15 : 15 ≤ k
            · have q9 := nxt z2 f2 a1 (fun _ => by
                rw [a2, eF]
                simp only [coK]
                rw [show F - (F - (lvN A B c + 1)) = lvN A B c + 1 by omega, nFif_eq, show k = 15 by omega])
              refine hc 20 _ _ _ fun _ _ => ?_
              simp only [pvSt1]
              simp only [pvE_aload_n0, pvLA_s, pvLd, pvE_getfield, pvGf_0, pvGf_1, pvGf_2, fX10_225, pvSh_0, pvSh_1, pvSh_2, pvSh_3, pvSh_4, pvSh_5, pvSh_6, pvSh_7, pvSh_8, pvSh_9, pvSh_10, pvSh_11, pvSh_12, pvSh_13, pvSh_14, pvSh_15, pvSh_16, pvSh_17, pvSh_18, pvSh_19, pvSh_20, pvSh_21, pvSh_22, pvSh_23, pvSh_24, pvSh_25, pvSh_26, pvSh_27, pvSh_28, pvSh_29, pvSh_30, pvSh_31, pvSh_32, pvSh_33, pvSh_34, pvSh_35, pvSh_36, pvSh_37, pvSh_38, pvSh_39, pvSh_40, pvSh_41, pvSh_42, pvSh_43, pvSh_44, pvSh_45, pvSh_46, pvSh_47, pvSh_48, pvSh_49, pvSh_50, pvSh_51, pvSh_52, pvSh_53, pvSh_54, pvSh_55, pvSh_56, pvSh_57, pvSh_58, pvSh_59, pvRf_0_0, pvRf_0_1, pvRf_0_2, pvRf_0_3, pvRf_0_4, pvRf_0_5, pvRf_0_6, pvRf_0_7, pvRf_0_8, pvRf_0_9, pvRf_0_10, pvRf_1_0, pvRf_3_0, pvRf_5_0, pvRf_5_1, pvRf_5_2, pvRf_9_0, pvRf_9_1, pvRf_9_2, pvRf_13_0, pvRf_13_1, pvRf_13_2, pvRf_17_0, pvRf_17_2, pvRf_20_0, pvRf_20_1, pvRf_20_2, pvRf_24_0, pvRf_24_1, pvRf_24_2, pvRf_28_0, pvRf_28_1, pvRf_28_2, pvRf_28_3, pvRf_33_0, pvRf_33_1, pvRf_36_0, pvRf_36_1, pvRf_39_0, pvRf_39_1, pvRf_39_2, pvRf_39_5, pvRf_39_6, pvRf_39_9, pvRf_39_13, pvRf_39_15, pvRf_39_16, pvRf_39_17, pvRf_39_19, pvRf_39_20, pvRf_39_22, pvRf_39_23, pvRf_39_24, pvRf_39_25, pvRf_39_29, pvRf_39_30, pvE_iconst, pvE_isub, pvE_istore_n2, pvS1, List.length_cons, List.length_nil, pvClr_i, pvClr_r, pvClr_l, pvClr_d, pvClr_f, pvClr_n, pvE_iload_n2, pvLI_s, pvE_if_lt, fX10_60, pvE_iaload, pvAI, pvE_istore_n3, fX10_57, pvE_iload_n3, fX10_54, fX10_228, pvE_icmp_ne, pvE_iload_n1, pvE_invokevirtual, pvC1_s, pvC2_s, pvAf_v, pvAf_x, pvPop, pvCs, pvCat, pvPush, aX10_costs_231, pvE_if_eq, pvE_goto, pvE_sipush, pvE_iastore, pvE_idiv, aX10_costs_237, pvE_istore, pvE_iload, pvE_bipush, pvE_icmp_ge, pvE_irem, aX10_costs_240, pvE_iadd, pvE_iinc, pvIc_s, pvE_return, bX10_costs_0, uX10_costs_0, bX10_costs_7, uX10_costs_7, bX10_costs_49, uX10_costs_49, bX10_costs_52, uX10_costs_52, bX10_costs_67, uX10_costs_67, bX10_costs_167, uX10_costs_167, bX10_costs_173, uX10_costs_173, bX10_costs_179, uX10_costs_179, pvMk_t, pvMk_f, pvMk_n, pvRecv_r, pvUp_nl, pvUp_same, pvUp_ap, pvSt_ap, pvX_c, pvX_ms, pvX_mn, pvE_nil, pvEn_i, pvEn_r, pvEn_l, pvEn_0, pvEn_s, pvRt, pvRv, pvTh, pvKc, pvGo, pvTgt, Int.toNat_natCast, false_and, and_false, true_and, and_true, if_true, if_false, reduceIte, reduceCtorEq, forall_const, false_or, or_false, true_or, or_true, ne_eq, not_true_eq_false, not_false_eq_true, implies_true, false_implies, Nat.reduceAdd, Nat.reduceSub, Nat.reduceMul, Nat.reduceEqDiff, Nat.reduceLT, Nat.reduceLeDiff, Int.reduceAdd, Int.reduceSub, Int.reduceMul, Int.reduceNeg, Int.reduceToNat, Int.reduceLE, Int.reduceLT, Int.reduceEq, Int.reduceNe, and_self]
              (repeat' first | with_reducible apply And.intro | with_reducible intro _)
              all_goals first
                | omega
                | exact q9
            · obtain ⟨x, ex⟩ : ∃ x, stF1 A B c ((k / 5 : Nat) : Int) ((k % 5 : Nat) : Int) = x := ⟨_, rfl⟩
              have hst := st_r wA wB hoki (a := ((k / 5 : Nat) : Int)) (d := ((k % 5 : Nat) : Int)) (by omega) (by omega)
              rw [ex] at hst
              have exi' : stF1 A B c ((k : Int) / 5) ((k : Int) % 5) = x := by
                rw [← ex, Int.natCast_ediv, Int.natCast_emod]
                rfl
              have hmr := mnK_r (A := A) (B := B) (lev := lvN A B c + 1) (co := coK A B F (F - (lvN A B c + 1))) (c := c) (fun y => (coK_r A B F _ y).1) k
              have estep : mnK A B (lvN A B c + 1) (coK A B F (F - (lvN A B c + 1))) c (k + 1) = if lvB A B (lvN A B c + 1) x = true ∧ coK A B F (F - (lvN A B c + 1)) x + ((k % 5 : Nat) : Int) < mnK A B (lvN A B c + 1) (coK A B F (F - (lvN A B c + 1))) c k then coK A B F (F - (lvN A B c + 1)) x + ((k % 5 : Nat) : Int) else mnK A B (lvN A B c + 1) (coK A B F (F - (lvN A B c + 1))) c k := by
                simp only [mnK]
                rw [ex]
              have sr2 := srP_m sr f2 (by simp) (by rw [g39])
              have k5 : ((k : Int) % 5) = ((k % 5 : Nat) : Int) := by omega
              have goOn : ∀ z3 : pvM, frF [54] [] z z3 → (∀ c' ∈ Qs, i + 1 ≤ ixN Qs c' → lvN A B c' ≤ F → z3.1 54 (ndC c').toNat = coK A B F (F - lvN A B c') c') → z3.1 54 (ndC c).toNat = mnK A B (lvN A B c + 1) (coK A B F (F - (lvN A B c + 1))) c (k + 1) → SW 67 [some (vR 39), some (vI s), some (vI (i : Int)), some (vI (ndC c)), some (vI (c / 256)), some (vI ((k : Int) + 1)), none] z3 := fun z3 f3 b1 b2 => ihk (mk - 1) (by omega) (k + 1) z3 (by omega) f3 b1 b2
              refine hc 20 _ _ _ fun _ _ => ?_
              simp only [pvSt1]
              simp only [C_X10_follows, g39, g53, e27, edist, a2, pvE_aload_n0, pvLA_s, pvLd, pvE_getfield, pvGf_0, pvGf_1, pvGf_2, fX10_225, pvSh_0, pvSh_1, pvSh_2, pvSh_3, pvSh_4, pvSh_5, pvSh_6, pvSh_7, pvSh_8, pvSh_9, pvSh_10, pvSh_11, pvSh_12, pvSh_13, pvSh_14, pvSh_15, pvSh_16, pvSh_17, pvSh_18, pvSh_19, pvSh_20, pvSh_21, pvSh_22, pvSh_23, pvSh_24, pvSh_25, pvSh_26, pvSh_27, pvSh_28, pvSh_29, pvSh_30, pvSh_31, pvSh_32, pvSh_33, pvSh_34, pvSh_35, pvSh_36, pvSh_37, pvSh_38, pvSh_39, pvSh_40, pvSh_41, pvSh_42, pvSh_43, pvSh_44, pvSh_45, pvSh_46, pvSh_47, pvSh_48, pvSh_49, pvSh_50, pvSh_51, pvSh_52, pvSh_53, pvSh_54, pvSh_55, pvSh_56, pvSh_57, pvSh_58, pvSh_59, pvRf_0_0, pvRf_0_1, pvRf_0_2, pvRf_0_3, pvRf_0_4, pvRf_0_5, pvRf_0_6, pvRf_0_7, pvRf_0_8, pvRf_0_9, pvRf_0_10, pvRf_1_0, pvRf_3_0, pvRf_5_0, pvRf_5_1, pvRf_5_2, pvRf_9_0, pvRf_9_1, pvRf_9_2, pvRf_13_0, pvRf_13_1, pvRf_13_2, pvRf_17_0, pvRf_17_2, pvRf_20_0, pvRf_20_1, pvRf_20_2, pvRf_24_0, pvRf_24_1, pvRf_24_2, pvRf_28_0, pvRf_28_1, pvRf_28_2, pvRf_28_3, pvRf_33_0, pvRf_33_1, pvRf_36_0, pvRf_36_1, pvRf_39_0, pvRf_39_1, pvRf_39_2, pvRf_39_5, pvRf_39_6, pvRf_39_9, pvRf_39_13, pvRf_39_15, pvRf_39_16, pvRf_39_17, pvRf_39_19, pvRf_39_20, pvRf_39_22, pvRf_39_23, pvRf_39_24, pvRf_39_25, pvRf_39_29, pvRf_39_30, pvE_iconst, pvE_isub, pvE_istore_n2, pvS1, List.length_cons, List.length_nil, pvClr_i, pvClr_r, pvClr_l, pvClr_d, pvClr_f, pvClr_n, pvE_iload_n2, pvLI_s, pvE_if_lt, fX10_60, pvE_iaload, pvAI, pvE_istore_n3, fX10_57, pvE_iload_n3, fX10_54, fX10_228, pvE_icmp_ne, pvE_iload_n1, pvE_invokevirtual, pvC1_s, pvC2_s, pvAf_v, pvAf_x, pvPop, pvCs, pvCat, pvPush, aX10_costs_231, pvE_if_eq, pvE_goto, pvE_sipush, pvE_iastore, pvE_idiv, aX10_costs_237, pvE_istore, pvE_iload, pvE_bipush, pvE_icmp_ge, pvE_irem, aX10_costs_240, pvE_iadd, pvE_iinc, pvIc_s, pvE_return, bX10_costs_0, uX10_costs_0, bX10_costs_7, uX10_costs_7, bX10_costs_49, uX10_costs_49, bX10_costs_52, uX10_costs_52, bX10_costs_67, uX10_costs_67, bX10_costs_167, uX10_costs_167, bX10_costs_173, uX10_costs_173, bX10_costs_179, uX10_costs_179, pvMk_t, pvMk_f, pvMk_n, pvRecv_r, pvUp_nl, pvUp_same, pvUp_ap, pvSt_ap, pvX_c, pvX_ms, pvX_mn, pvE_nil, pvEn_i, pvEn_r, pvEn_l, pvEn_0, pvEn_s, pvRt, pvRv, pvTh, pvKc, pvGo, pvTgt, Int.toNat_natCast, false_and, and_false, true_and, and_true, if_true, if_false, reduceIte, reduceCtorEq, forall_const, false_or, or_false, true_or, or_true, ne_eq, not_true_eq_false, not_false_eq_true, implies_true, false_implies, Nat.reduceAdd, Nat.reduceSub, Nat.reduceMul, Nat.reduceEqDiff, Nat.reduceLT, Nat.reduceLeDiff, Int.reduceAdd, Int.reduceSub, Int.reduceMul, Int.reduceNeg, Int.reduceToNat, Int.reduceLE, Int.reduceLT, Int.reduceEq, Int.reduceNe, and_self]
              by_cases hlx : lqF A B (lvN A B c + 1) x
              · obtain ⟨hmx, elx⟩ := (sh_lq sh (by omega)).mp hlx
                have hokx := (rq.2.2.2.2 _ hmx).1
                have hnx := nc_r hokx
                have enx : nxC x = ndC x := if_neg (by have := hokx.1; omega)
                have edx := rq.2.2.1 _ hokx
                rw [if_pos hmx, elx] at edx
                obtain ⟨x1, x2⟩ := ixN_lt hmx
                have hgt : i + 1 ≤ ixN Qs x := by
                  by_cases e : i + 1 ≤ ixN Qs x
                  · exact e
                  · have := sh.2.2.1 (ixN Qs x) i (by omega) (by omega)
                    rw [x2, ec] at this
                    omega
                have ecx := a1 x hmx hgt (by omega)
                rw [elx] at ecx
                have hcr := coK_r A B F (F - (lvN A B c + 1)) x
                by_cases hlt : coK A B F (F - (lvN A B c + 1)) x + ((k % 5 : Nat) : Int) < mnK A B (lvN A B c + 1) (coK A B F (F - (lvN A B c + 1))) c k
                · rw [if_pos ⟨lvB_t.mpr hlx, hlt⟩] at estep
                  have q9 := goOn (pvUp z2.1 54 (ndC c).toNat (coK A B F (F - (lvN A B c + 1)) x + ((k % 5 : Nat) : Int)), z2.2) (by (repeat' first | assumption | exact frF_0 | (refine frF_u ?_ (by decide)) | (refine frF_s ?_ (by decide)) | (refine frF_l ?_ (by decide)))) (keep z2 _ f2 a1) (by rw [estep]; simp [pvUp_ap])
                  (repeat' first | with_reducible apply And.intro | with_reducible intro _)
                  all_goals first
                    | omega
                    | skip
                  all_goals
                    refine ⟨A, B, c, ⟨sr2, hoki, rfl, rfl, by omega, by omega⟩, ?_⟩
                    rw [exi', enx]
                    simp only [edx, ecx, k5]
                    (repeat' first | with_reducible apply And.intro | with_reducible intro _)
                    all_goals first
                      | omega
                      | contradiction
                      | exact q9
                · rw [if_neg (fun q => hlt q.2)] at estep
                  have q9 := goOn z2 f2 a1 (by rw [estep]; exact a2)
                  (repeat' first | with_reducible apply And.intro | with_reducible intro _)
                  all_goals first
                    | omega
                    | skip
                  all_goals
                    refine ⟨A, B, c, ⟨sr2, hoki, rfl, rfl, by omega, by omega⟩, ?_⟩
                    rw [exi', enx]
                    simp only [edx, ecx, k5]
                    (repeat' first | with_reducible apply And.intro | with_reducible intro _)
                    all_goals first
                      | omega
                      | contradiction
                      | exact q9
              · rw [if_neg (fun q => hlx (lvB_t.mp q.1))] at estep
                have q9 := goOn z2 f2 a1 (by rw [estep]; exact a2)
                (repeat' first | with_reducible apply And.intro | with_reducible intro _)
                all_goals first
                  | omega
                  | skip
                all_goals
                  refine ⟨A, B, c, ⟨sr2, hoki, rfl, rfl, by omega, by omega⟩, ?_⟩
                  rw [exi']
                  by_cases ex1 : x = -1
                  · have enx : nxC x = -1 := if_pos ex1
                    rw [enx]
                    (repeat' first | with_reducible apply And.intro | with_reducible intro _)
                    all_goals first
                      | omega
                      | contradiction
                      | exact q9
                  · have enx : nxC x = ndC x := if_neg ex1
                    have hokx : okQ x := hst.elim (fun h => absurd h ex1) id
                    have hnx := nc_r hokx
                    have edx := rq.2.2.1 _ hokx
                    have hned : ¬ z.1 53 (ndC x).toNat = ((lvN A B c : Nat) : Int) + 1 := by
                      rw [edx]
                      by_cases hmx : x ∈ Qs
                      · rw [if_pos hmx]
                        intro e
                        exact hlx ((sh_lq sh (by omega)).mpr ⟨hmx, by omega⟩)
                      · rw [if_neg hmx]; omega
                    rw [enx]
                    (repeat' first | with_reducible apply And.intro | with_reducible intro _)
                    all_goals first
                      | omega
                      | contradiction
                      | exact q9
        have sr2 := srP_m sr f1 (by simp) (by rw [g39])
        have o1' : ∀ c' ∈ Qs, i + 1 ≤ ixN Qs c' → lvN A B c' ≤ F → z'.1 54 (ndC c').toNat = coK A B F (F - lvN A B c') c' := o1
        refine hc 20 _ _ _ fun _ _ => ?_
        simp only [pvSt1]
        simp only [C_X10_isGoal, C_X10_valueOf, g39, g53, g55, e27, ei, edist, pvE_aload_n0, pvLA_s, pvLd, pvE_getfield, pvGf_0, pvGf_1, pvGf_2, fX10_225, pvSh_0, pvSh_1, pvSh_2, pvSh_3, pvSh_4, pvSh_5, pvSh_6, pvSh_7, pvSh_8, pvSh_9, pvSh_10, pvSh_11, pvSh_12, pvSh_13, pvSh_14, pvSh_15, pvSh_16, pvSh_17, pvSh_18, pvSh_19, pvSh_20, pvSh_21, pvSh_22, pvSh_23, pvSh_24, pvSh_25, pvSh_26, pvSh_27, pvSh_28, pvSh_29, pvSh_30, pvSh_31, pvSh_32, pvSh_33, pvSh_34, pvSh_35, pvSh_36, pvSh_37, pvSh_38, pvSh_39, pvSh_40, pvSh_41, pvSh_42, pvSh_43, pvSh_44, pvSh_45, pvSh_46, pvSh_47, pvSh_48, pvSh_49, pvSh_50, pvSh_51, pvSh_52, pvSh_53, pvSh_54, pvSh_55, pvSh_56, pvSh_57, pvSh_58, pvSh_59, pvRf_0_0, pvRf_0_1, pvRf_0_2, pvRf_0_3, pvRf_0_4, pvRf_0_5, pvRf_0_6, pvRf_0_7, pvRf_0_8, pvRf_0_9, pvRf_0_10, pvRf_1_0, pvRf_3_0, pvRf_5_0, pvRf_5_1, pvRf_5_2, pvRf_9_0, pvRf_9_1, pvRf_9_2, pvRf_13_0, pvRf_13_1, pvRf_13_2, pvRf_17_0, pvRf_17_2, pvRf_20_0, pvRf_20_1, pvRf_20_2, pvRf_24_0, pvRf_24_1, pvRf_24_2, pvRf_28_0, pvRf_28_1, pvRf_28_2, pvRf_28_3, pvRf_33_0, pvRf_33_1, pvRf_36_0, pvRf_36_1, pvRf_39_0, pvRf_39_1, pvRf_39_2, pvRf_39_5, pvRf_39_6, pvRf_39_9, pvRf_39_13, pvRf_39_15, pvRf_39_16, pvRf_39_17, pvRf_39_19, pvRf_39_20, pvRf_39_22, pvRf_39_23, pvRf_39_24, pvRf_39_25, pvRf_39_29, pvRf_39_30, pvE_iconst, pvE_isub, pvE_istore_n2, pvS1, List.length_cons, List.length_nil, pvClr_i, pvClr_r, pvClr_l, pvClr_d, pvClr_f, pvClr_n, pvE_iload_n2, pvLI_s, pvE_if_lt, fX10_60, pvE_iaload, pvAI, pvE_istore_n3, fX10_57, pvE_iload_n3, fX10_54, fX10_228, pvE_icmp_ne, pvE_iload_n1, pvE_invokevirtual, pvC1_s, pvC2_s, pvAf_v, pvAf_x, pvPop, pvCs, pvCat, pvPush, aX10_costs_231, pvE_if_eq, pvE_goto, pvE_sipush, pvE_iastore, pvE_idiv, aX10_costs_237, pvE_istore, pvE_iload, pvE_bipush, pvE_icmp_ge, pvE_irem, aX10_costs_240, pvE_iadd, pvE_iinc, pvIc_s, pvE_return, bX10_costs_0, uX10_costs_0, bX10_costs_7, uX10_costs_7, bX10_costs_49, uX10_costs_49, bX10_costs_52, uX10_costs_52, bX10_costs_67, uX10_costs_67, bX10_costs_167, uX10_costs_167, bX10_costs_173, uX10_costs_173, bX10_costs_179, uX10_costs_179, pvMk_t, pvMk_f, pvMk_n, pvRecv_r, pvUp_nl, pvUp_same, pvUp_ap, pvSt_ap, pvX_c, pvX_ms, pvX_mn, pvE_nil, pvEn_i, pvEn_r, pvEn_l, pvEn_0, pvEn_s, pvRt, pvRv, pvTh, pvKc, pvGo, pvTgt, Int.toNat_natCast, false_and, and_false, true_and, and_true, if_true, if_false, reduceIte, reduceCtorEq, forall_const, false_or, or_false, true_or, or_true, ne_eq, not_true_eq_false, not_false_eq_true, implies_true, false_implies, Nat.reduceAdd, Nat.reduceSub, Nat.reduceMul, Nat.reduceEqDiff, Nat.reduceLT, Nat.reduceLeDiff, Int.reduceAdd, Int.reduceSub, Int.reduceMul, Int.reduceNeg, Int.reduceToNat, Int.reduceLE, Int.reduceLT, Int.reduceEq, Int.reduceNe, and_self]
        have keep2 := fun x => keep z' x f1 o1'
        have fx : ∀ x, frF [54] [] z (pvUp z'.1 54 (ndC c).toNat x, z'.2) := fun x => by (repeat' first | assumption | exact frF_0 | (refine frF_u ?_ (by decide)) | (refine frF_s ?_ (by decide)) | (refine frF_l ?_ (by decide)))
        have head67 : ∀ x : Int, (lvN A B c ≤ F → ¬ lvN A B c < F → x = coK A B F 0 c) → (lvN A B c < F → x = 1000) → (0 ≤ x ∧ x ≤ 1000) → SW 67 [some (vR 39), some (vI s), some (vI (i : Int)), some (vI (ndC c)), some (vI (c / 256)), some (vI 0), none] (pvUp z'.1 54 (ndC c).toNat x, z'.2) := by
          intro x hx1 hx2 hx3
          by_cases hlF : lvN A B c < F
          · exact inner hlF 15 0 (pvUp z'.1 54 (ndC c).toNat x, z'.2) rfl (fx x) (keep2 x) (by rw [hx2 hlF]; simp [pvUp_ap, mnK])
          · have q9 := nxt (pvUp z'.1 54 (ndC c).toNat x, z'.2) (fx x) (keep2 x) (fun hle => by
              rw [show F - lvN A B c = 0 by omega, ← hx1 hle hlF]
              simp [pvUp_ap])
            refine hc 20 _ _ _ fun _ _ => ?_
            simp only [pvSt1]
            simp only [g39, g53, e27, edist, pvE_aload_n0, pvLA_s, pvLd, pvE_getfield, pvGf_0, pvGf_1, pvGf_2, fX10_225, pvSh_0, pvSh_1, pvSh_2, pvSh_3, pvSh_4, pvSh_5, pvSh_6, pvSh_7, pvSh_8, pvSh_9, pvSh_10, pvSh_11, pvSh_12, pvSh_13, pvSh_14, pvSh_15, pvSh_16, pvSh_17, pvSh_18, pvSh_19, pvSh_20, pvSh_21, pvSh_22, pvSh_23, pvSh_24, pvSh_25, pvSh_26, pvSh_27, pvSh_28, pvSh_29, pvSh_30, pvSh_31, pvSh_32, pvSh_33, pvSh_34, pvSh_35, pvSh_36, pvSh_37, pvSh_38, pvSh_39, pvSh_40, pvSh_41, pvSh_42, pvSh_43, pvSh_44, pvSh_45, pvSh_46, pvSh_47, pvSh_48, pvSh_49, pvSh_50, pvSh_51, pvSh_52, pvSh_53, pvSh_54, pvSh_55, pvSh_56, pvSh_57, pvSh_58, pvSh_59, pvRf_0_0, pvRf_0_1, pvRf_0_2, pvRf_0_3, pvRf_0_4, pvRf_0_5, pvRf_0_6, pvRf_0_7, pvRf_0_8, pvRf_0_9, pvRf_0_10, pvRf_1_0, pvRf_3_0, pvRf_5_0, pvRf_5_1, pvRf_5_2, pvRf_9_0, pvRf_9_1, pvRf_9_2, pvRf_13_0, pvRf_13_1, pvRf_13_2, pvRf_17_0, pvRf_17_2, pvRf_20_0, pvRf_20_1, pvRf_20_2, pvRf_24_0, pvRf_24_1, pvRf_24_2, pvRf_28_0, pvRf_28_1, pvRf_28_2, pvRf_28_3, pvRf_33_0, pvRf_33_1, pvRf_36_0, pvRf_36_1, pvRf_39_0, pvRf_39_1, pvRf_39_2, pvRf_39_5, pvRf_39_6, pvRf_39_9, pvRf_39_13, pvRf_39_15, pvRf_39_16, pvRf_39_17, pvRf_39_19, pvRf_39_20, pvRf_39_22, pvRf_39_23, pvRf_39_24, pvRf_39_25, pvRf_39_29, pvRf_39_30, pvE_iconst, pvE_isub, pvE_istore_n2, pvS1, List.length_cons, List.length_nil, pvClr_i, pvClr_r, pvClr_l, pvClr_d, pvClr_f, pvClr_n, pvE_iload_n2, pvLI_s, pvE_if_lt, fX10_60, pvE_iaload, pvAI, pvE_istore_n3, fX10_57, pvE_iload_n3, fX10_54, fX10_228, pvE_icmp_ne, pvE_iload_n1, pvE_invokevirtual, pvC1_s, pvC2_s, pvAf_v, pvAf_x, pvPop, pvCs, pvCat, pvPush, aX10_costs_231, pvE_if_eq, pvE_goto, pvE_sipush, pvE_iastore, pvE_idiv, aX10_costs_237, pvE_istore, pvE_iload, pvE_bipush, pvE_icmp_ge, pvE_irem, aX10_costs_240, pvE_iadd, pvE_iinc, pvIc_s, pvE_return, bX10_costs_0, uX10_costs_0, bX10_costs_7, uX10_costs_7, bX10_costs_49, uX10_costs_49, bX10_costs_52, uX10_costs_52, bX10_costs_67, uX10_costs_67, bX10_costs_167, uX10_costs_167, bX10_costs_173, uX10_costs_173, bX10_costs_179, uX10_costs_179, pvMk_t, pvMk_f, pvMk_n, pvRecv_r, pvUp_nl, pvUp_same, pvUp_ap, pvSt_ap, pvX_c, pvX_ms, pvX_mn, pvE_nil, pvEn_i, pvEn_r, pvEn_l, pvEn_0, pvEn_s, pvRt, pvRv, pvTh, pvKc, pvGo, pvTgt, Int.toNat_natCast, false_and, and_false, true_and, and_true, if_true, if_false, reduceIte, reduceCtorEq, forall_const, false_or, or_false, true_or, or_true, ne_eq, not_true_eq_false, not_false_eq_true, implies_true, false_implies, Nat.reduceAdd, Nat.reduceSub, Nat.reduceMul, Nat.reduceEqDiff, Nat.reduceLT, Nat.reduceLeDiff, Int.reduceAdd, Int.reduceSub, Int.reduceMul, Int.reduceNeg, Int.reduceToNat, Int.reduceLE, Int.reduceLT, Int.reduceEq, Int.reduceNe, and_self]
            (repeat' first | with_reducible apply And.intro | with_reducible intro _)
            all_goals first
              | omega
              | exact q9
        have c0g : goF A B c → coK A B F 0 c = 0 := fun h => by simp only [coK]; rw [if_pos (goB_t.mpr h)]
        have c0n : ¬ goF A B c → coK A B F 0 c = 1000 := fun h => by simp only [coK]; rw [if_neg (fun q => h (goB_t.mp q))]
        by_cases hEq : ((lvN A B c : Nat) : Int) = F
        · (repeat' first | with_reducible apply And.intro | with_reducible intro _)
          all_goals first
            | omega
            | contradiction
            | skip
          all_goals
            refine ⟨A, B, c, ⟨sr2, hoki, rfl⟩, fun hg => ?_, fun hg => ?_⟩
            · have q9 := head67 0 (fun _ _ => (c0g hg).symm) (fun h => by omega) (by omega)
              (repeat' first | with_reducible apply And.intro | with_reducible intro _)
              all_goals first
                | omega
                | contradiction
                | exact ⟨_, ⟨sr2.2.2.2.2.1, hoki, rfl⟩, by omega, q9⟩
                | exact ⟨_, ⟨sr2.2.2.2.2.1, hoki, rfl⟩, q9⟩
            · have q9 := head67 1000 (fun _ _ => (c0n hg).symm) (fun h => by omega) (by omega)
              (repeat' first | with_reducible apply And.intro | with_reducible intro _)
              all_goals first
                | omega
                | contradiction
                | exact ⟨_, ⟨sr2.2.2.2.2.1, hoki, rfl⟩, by omega, q9⟩
                | exact ⟨_, ⟨sr2.2.2.2.2.1, hoki, rfl⟩, q9⟩
        · have q9 := head67 1000 (fun h1 h2 => by omega) (fun _ => rfl) (by omega)
          (repeat' first | with_reducible apply And.intro | with_reducible intro _)
          all_goals first
            | omega
            | contradiction
            | exact ⟨_, ⟨sr2.2.2.2.2.1, hoki, rfl⟩, by omega, q9⟩
            | exact ⟨_, ⟨sr2.2.2.2.2.1, hoki, rfl⟩, q9⟩
    have q9 := outer Qs.length z (Nat.le_refl _) frF_0 (fun c hc hi _ => by have := (ixN_lt hc).1; omega)
    refine hc 20 _ _ _ fun _ _ => ?_
    simp only [pvSt1]
    simp only [e26, pvE_aload_n0, pvLA_s, pvLd, pvE_getfield, pvGf_0, pvGf_1, pvGf_2, fX10_225, pvSh_0, pvSh_1, pvSh_2, pvSh_3, pvSh_4, pvSh_5, pvSh_6, pvSh_7, pvSh_8, pvSh_9, pvSh_10, pvSh_11, pvSh_12, pvSh_13, pvSh_14, pvSh_15, pvSh_16, pvSh_17, pvSh_18, pvSh_19, pvSh_20, pvSh_21, pvSh_22, pvSh_23, pvSh_24, pvSh_25, pvSh_26, pvSh_27, pvSh_28, pvSh_29, pvSh_30, pvSh_31, pvSh_32, pvSh_33, pvSh_34, pvSh_35, pvSh_36, pvSh_37, pvSh_38, pvSh_39, pvSh_40, pvSh_41, pvSh_42, pvSh_43, pvSh_44, pvSh_45, pvSh_46, pvSh_47, pvSh_48, pvSh_49, pvSh_50, pvSh_51, pvSh_52, pvSh_53, pvSh_54, pvSh_55, pvSh_56, pvSh_57, pvSh_58, pvSh_59, pvRf_0_0, pvRf_0_1, pvRf_0_2, pvRf_0_3, pvRf_0_4, pvRf_0_5, pvRf_0_6, pvRf_0_7, pvRf_0_8, pvRf_0_9, pvRf_0_10, pvRf_1_0, pvRf_3_0, pvRf_5_0, pvRf_5_1, pvRf_5_2, pvRf_9_0, pvRf_9_1, pvRf_9_2, pvRf_13_0, pvRf_13_1, pvRf_13_2, pvRf_17_0, pvRf_17_2, pvRf_20_0, pvRf_20_1, pvRf_20_2, pvRf_24_0, pvRf_24_1, pvRf_24_2, pvRf_28_0, pvRf_28_1, pvRf_28_2, pvRf_28_3, pvRf_33_0, pvRf_33_1, pvRf_36_0, pvRf_36_1, pvRf_39_0, pvRf_39_1, pvRf_39_2, pvRf_39_5, pvRf_39_6, pvRf_39_9, pvRf_39_13, pvRf_39_15, pvRf_39_16, pvRf_39_17, pvRf_39_19, pvRf_39_20, pvRf_39_22, pvRf_39_23, pvRf_39_24, pvRf_39_25, pvRf_39_29, pvRf_39_30, pvE_iconst, pvE_isub, pvE_istore_n2, pvS1, List.length_cons, List.length_nil, pvClr_i, pvClr_r, pvClr_l, pvClr_d, pvClr_f, pvClr_n, pvE_iload_n2, pvLI_s, pvE_if_lt, fX10_60, pvE_iaload, pvAI, pvE_istore_n3, fX10_57, pvE_iload_n3, fX10_54, fX10_228, pvE_icmp_ne, pvE_iload_n1, pvE_invokevirtual, pvC1_s, pvC2_s, pvAf_v, pvAf_x, pvPop, pvCs, pvCat, pvPush, aX10_costs_231, pvE_if_eq, pvE_goto, pvE_sipush, pvE_iastore, pvE_idiv, aX10_costs_237, pvE_istore, pvE_iload, pvE_bipush, pvE_icmp_ge, pvE_irem, aX10_costs_240, pvE_iadd, pvE_iinc, pvIc_s, pvE_return, bX10_costs_0, uX10_costs_0, bX10_costs_7, uX10_costs_7, bX10_costs_49, uX10_costs_49, bX10_costs_52, uX10_costs_52, bX10_costs_67, uX10_costs_67, bX10_costs_167, uX10_costs_167, bX10_costs_173, uX10_costs_173, bX10_costs_179, uX10_costs_179, pvMk_t, pvMk_f, pvMk_n, pvRecv_r, pvUp_nl, pvUp_same, pvUp_ap, pvSt_ap, pvX_c, pvX_ms, pvX_mn, pvE_nil, pvEn_i, pvEn_r, pvEn_l, pvEn_0, pvEn_s, pvRt, pvRv, pvTh, pvKc, pvGo, pvTgt, Int.toNat_natCast, false_and, and_false, true_and, and_true, if_true, if_false, reduceIte, reduceCtorEq, forall_const, false_or, or_false, true_or, or_true, ne_eq, not_true_eq_false, not_false_eq_true, implies_true, false_implies, Nat.reduceAdd, Nat.reduceSub, Nat.reduceMul, Nat.reduceEqDiff, Nat.reduceLT, Nat.reduceLeDiff, Int.reduceAdd, Int.reduceSub, Int.reduceMul, Int.reduceNeg, Int.reduceToNat, Int.reduceLE, Int.reduceLT, Int.reduceEq, Int.reduceNe, and_self]
    (repeat' first | with_reducible apply And.intro | with_reducible intro _)
    all_goals first
      | omega
      | exact q9
  · exact h.elim
