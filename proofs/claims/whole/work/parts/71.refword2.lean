/-! the reference's search: the word taken, and what is asked of it -/
def C_X10_takes : pvC
  | [.inr (.inr (.inl id)), .inl s], z, Q => id = 39 ∧ ∃ (A B : Aut) (Qs : List Int) (F : Nat), (srP z s A B ∧ shF A B z Qs F ∧ fdF A B F ∧ F ≤ 10) ∧
      ∀ z' : pvM, frF [39, 43, 44, 54] [] z z' → (∀ j, j ≠ 7 → z'.1 39 j = z.1 39 j) → z'.1 39 7 = F → (∀ j : Nat, j < F → z'.1 43 j = ((nkF A B F j (wcF A B F j) % 5 : Nat) : Int) ∧ z'.1 44 j = ((nkF A B F j (wcF A B F j) / 5 : Nat) : Int)) → Q (.inl (some (vI (F : Int)))) z'
  | _, _, _ => False
def bX10_takes : Nat → List (Instr × Nat)
  | 0 => [(.aload_n 0, 1), (.iload_n 1, 1), (.invokevirtual 244, 3)]
  | 5 => [(.aload_n 0, 1), (.getfield 60, 3), (.iconst 0, 1), (.iaload, 1), (.istore_n 2, 1), (.aload_n 0, 1), (.aload_n 0, 1), (.getfield 228, 3), (.putfield 158, 3), (.iconst 0, 1), (.istore_n 3, 1)]
  | 22 => [(.iload_n 3, 1), (.aload_n 0, 1), (.getfield 228, 3), (.if_icmp .ge 121, 3), (.aload_n 0, 1), (.iload_n 2, 1), (.sipush 256, 3), (.idiv, 1), (.invokevirtual 237, 3), (.istore 4, 2), (.iconst 0, 1), (.istore 5, 2), (.aload_n 0, 1), (.iload_n 1, 1), (.iload_n 2, 1), (.iload 4, 2), (.iconst 0, 1), (.iconst 0, 1), (.invokevirtual 240, 3), (.istore 6, 2)]
  | 56 => [(.iload 6, 2), (.ifCond .lt 37, 3), (.aload_n 0, 1), (.getfield 54, 3), (.iload 6, 2), (.iaload, 1), (.iload_n 3, 1), (.iconst 1, 1), (.iadd, 1), (.if_icmp .ne 24, 3), (.aload_n 0, 1), (.getfield 57, 3), (.iload 6, 2), (.iaload, 1), (.iload 5, 2), (.iconst 5, 1), (.irem, 1), (.iadd, 1), (.aload_n 0, 1), (.getfield 57, 3), (.iload_n 2, 1), (.iaload, 1), (.if_icmp .eq 27, 3)]
  | 95 => [(.iinc 5 1, 3), (.aload_n 0, 1), (.iload_n 1, 1), (.iload_n 2, 1), (.iload 4, 2), (.iload 5, 2), (.iconst 5, 1), (.idiv, 1), (.iload 5, 2), (.iconst 5, 1), (.irem, 1), (.invokevirtual 240, 3), (.istore 6, 2), (.goto (-60), 3)]
  | 119 => [(.aload_n 0, 1), (.getfield 19, 3), (.iload_n 3, 1), (.iload 5, 2), (.iconst 5, 1), (.irem, 1), (.iastore, 1), (.aload_n 0, 1), (.getfield 22, 3), (.iload_n 3, 1), (.iload 5, 2), (.iconst 5, 1), (.idiv, 1), (.iastore, 1), (.iload 6, 2), (.istore_n 2, 1), (.iinc 3 1, 3), (.goto (-123), 3)]
  | 148 => [(.aload_n 0, 1), (.getfield 228, 3), (.ireturn, 1)]
  | _ => []
def uX10_takes : Nat → Option (List Bool)
  | 5 => some [true, true, false, false, false, false, false]
  | 22 => some [true, true, true, true, false, false, false]
  | 56 => some [true, true, true, true, true, true, true]
  | _ => none
def aX10_takes : pvCa
  | 237 => some (2, false, 9, 0, C_X10_valueOf)
  | 240 => some (6, false, 9, 0, C_X10_follows)
  | 244 => some (2, false, 9, 0, C_X10_costs)
  | _ => none
theorem bX10_takes_0 : bX10_takes 0 = [(.aload_n 0, 1), (.iload_n 1, 1), (.invokevirtual 244, 3)] := rfl
theorem uX10_takes_0 : uX10_takes 0 = none := rfl
theorem bX10_takes_5 : bX10_takes 5 = [(.aload_n 0, 1), (.getfield 60, 3), (.iconst 0, 1), (.iaload, 1), (.istore_n 2, 1), (.aload_n 0, 1), (.aload_n 0, 1), (.getfield 228, 3), (.putfield 158, 3), (.iconst 0, 1), (.istore_n 3, 1)] := rfl
theorem uX10_takes_5 : uX10_takes 5 = some [true, true, false, false, false, false, false] := rfl
theorem bX10_takes_22 : bX10_takes 22 = [(.iload_n 3, 1), (.aload_n 0, 1), (.getfield 228, 3), (.if_icmp .ge 121, 3), (.aload_n 0, 1), (.iload_n 2, 1), (.sipush 256, 3), (.idiv, 1), (.invokevirtual 237, 3), (.istore 4, 2), (.iconst 0, 1), (.istore 5, 2), (.aload_n 0, 1), (.iload_n 1, 1), (.iload_n 2, 1), (.iload 4, 2), (.iconst 0, 1), (.iconst 0, 1), (.invokevirtual 240, 3), (.istore 6, 2)] := rfl
theorem uX10_takes_22 : uX10_takes 22 = some [true, true, true, true, false, false, false] := rfl
theorem bX10_takes_56 : bX10_takes 56 = [(.iload 6, 2), (.ifCond .lt 37, 3), (.aload_n 0, 1), (.getfield 54, 3), (.iload 6, 2), (.iaload, 1), (.iload_n 3, 1), (.iconst 1, 1), (.iadd, 1), (.if_icmp .ne 24, 3), (.aload_n 0, 1), (.getfield 57, 3), (.iload 6, 2), (.iaload, 1), (.iload 5, 2), (.iconst 5, 1), (.irem, 1), (.iadd, 1), (.aload_n 0, 1), (.getfield 57, 3), (.iload_n 2, 1), (.iaload, 1), (.if_icmp .eq 27, 3)] := rfl
theorem uX10_takes_56 : uX10_takes 56 = some [true, true, true, true, true, true, true] := rfl
theorem bX10_takes_95 : bX10_takes 95 = [(.iinc 5 1, 3), (.aload_n 0, 1), (.iload_n 1, 1), (.iload_n 2, 1), (.iload 4, 2), (.iload 5, 2), (.iconst 5, 1), (.idiv, 1), (.iload 5, 2), (.iconst 5, 1), (.irem, 1), (.invokevirtual 240, 3), (.istore 6, 2), (.goto (-60), 3)] := rfl
theorem uX10_takes_95 : uX10_takes 95 = none := rfl
theorem bX10_takes_119 : bX10_takes 119 = [(.aload_n 0, 1), (.getfield 19, 3), (.iload_n 3, 1), (.iload 5, 2), (.iconst 5, 1), (.irem, 1), (.iastore, 1), (.aload_n 0, 1), (.getfield 22, 3), (.iload_n 3, 1), (.iload 5, 2), (.iconst 5, 1), (.idiv, 1), (.iastore, 1), (.iload 6, 2), (.istore_n 2, 1), (.iinc 3 1, 3), (.goto (-123), 3)] := rfl
theorem uX10_takes_119 : uX10_takes 119 = none := rfl
theorem bX10_takes_148 : bX10_takes 148 = [(.aload_n 0, 1), (.getfield 228, 3), (.ireturn, 1)] := rfl
theorem uX10_takes_148 : uX10_takes 148 = none := rfl
theorem aX10_takes_237 : aX10_takes 237 = some (2, false, 9, 0, C_X10_valueOf) := rfl
theorem aX10_takes_240 : aX10_takes 240 = some (6, false, 9, 0, C_X10_follows) := rfl
theorem aX10_takes_244 : aX10_takes 244 = some (2, false, 9, 0, C_X10_costs) := rfl
def mX10_takes : Room := { frames := 4, cells := 1, slots := 6, locals := 96 }
set_option maxRecDepth 100000 in
set_option maxHeartbeats 4000000 in
theorem okX10_takes : pvOkM fX10 aX10_takes kX10 eX10 (some .int) bX10_takes uX10_takes 7 C_X10_takes := by
  intro Q SW hc as z h hS hz
  unfold C_X10_takes at h
  split at h
  · rename_i id s
    obtain ⟨rfl, A, B, Qs, F, ⟨sr, sh, hfd, hF⟩, h2⟩ := h
    obtain ⟨wA, wB⟩ := srP_w sr
    have rq := sh.1
    have hl5 := rq_len rq
    have e27 := sh.2.2.2.1
    refine ⟨Nat.le_of_ble_eq_true rfl, ?_⟩
    have outer : ∀ (m i : Nat) (z' : pvM), i + m = F → frF [39, 43, 44, 54] [] z z' → (∀ j, j ≠ 7 → z'.1 39 j = z.1 39 j) → z'.1 39 7 = F → rcP A B z' Qs F → (∀ j : Nat, j < i → z'.1 43 j = ((nkF A B F j (wcF A B F j) % 5 : Nat) : Int) ∧ z'.1 44 j = ((nkF A B F j (wcF A B F j) / 5 : Nat) : Int)) →
        SW 22 [some (vR 39), some (vI s), some (vI (ndC (wcF A B F i))), some (vI (i : Int)), none, none, none] z' := by
      intro m
      induction m using Nat.strongRecOn with
      | _ m ih =>
        intro i z' hi f1 k1 e7 rc o1
        have g27 := k1 27 (by decide)
        have sr1 := srP_m sr f1 (by simp) (k1 28 (by decide))
        by_cases hx : F ≤ i
        · obtain rfl : i = F := by omega
          have q9 := h2 z' f1 k1 e7 o1
          refine hc 20 _ _ _ fun _ _ => ?_
          simp only [pvSt1]
          simp only [g27, e27, pvE_aload_n0, pvLA_s, pvLd, pvE_iload_n1, pvLI_s, pvE_invokevirtual, pvC1_s, pvC2_s, pvAf_v, pvAf_x, pvPop, pvCs, pvCat, pvPush, aX10_takes_244, pvSh_0, pvSh_1, pvSh_2, pvSh_3, pvSh_4, pvSh_5, pvSh_6, pvSh_7, pvSh_8, pvSh_9, pvSh_10, pvSh_11, pvSh_12, pvSh_13, pvSh_14, pvSh_15, pvSh_16, pvSh_17, pvSh_18, pvSh_19, pvSh_20, pvSh_21, pvSh_22, pvSh_23, pvSh_24, pvSh_25, pvSh_26, pvSh_27, pvSh_28, pvSh_29, pvSh_30, pvSh_31, pvSh_32, pvSh_33, pvSh_34, pvSh_35, pvSh_36, pvSh_37, pvSh_38, pvSh_39, pvSh_40, pvSh_41, pvSh_42, pvSh_43, pvSh_44, pvSh_45, pvSh_46, pvSh_47, pvSh_48, pvSh_49, pvSh_50, pvSh_51, pvSh_52, pvSh_53, pvSh_54, pvSh_55, pvSh_56, pvSh_57, pvSh_58, pvSh_59, pvE_getfield, pvGf_0, pvGf_1, pvGf_2, fX10_60, pvRf_0_0, pvRf_0_1, pvRf_0_2, pvRf_0_3, pvRf_0_4, pvRf_0_5, pvRf_0_6, pvRf_0_7, pvRf_0_8, pvRf_0_9, pvRf_0_10, pvRf_1_0, pvRf_3_0, pvRf_5_0, pvRf_5_1, pvRf_5_2, pvRf_9_0, pvRf_9_1, pvRf_9_2, pvRf_13_0, pvRf_13_1, pvRf_13_2, pvRf_17_0, pvRf_17_2, pvRf_20_0, pvRf_20_1, pvRf_20_2, pvRf_24_0, pvRf_24_1, pvRf_24_2, pvRf_28_0, pvRf_28_1, pvRf_28_2, pvRf_28_3, pvRf_33_0, pvRf_33_1, pvRf_36_0, pvRf_36_1, pvRf_39_0, pvRf_39_1, pvRf_39_2, pvRf_39_5, pvRf_39_6, pvRf_39_9, pvRf_39_13, pvRf_39_15, pvRf_39_16, pvRf_39_17, pvRf_39_19, pvRf_39_20, pvRf_39_22, pvRf_39_23, pvRf_39_24, pvRf_39_25, pvRf_39_29, pvRf_39_30, pvE_iconst, pvE_iaload, pvAI, pvE_istore_n2, pvS1, List.length_cons, List.length_nil, pvClr_i, pvClr_r, pvClr_l, pvClr_d, pvClr_f, pvClr_n, fX10_228, pvE_putfield, pvPf_0, pvPf_1, fX10_158, pvE_istore_n3, pvE_iload_n3, pvE_icmp_ge, pvE_iload_n2, pvE_sipush, pvE_idiv, aX10_takes_237, pvE_istore, pvE_iload, aX10_takes_240, pvE_if_lt, fX10_54, pvE_iadd, pvE_icmp_ne, fX10_57, pvE_irem, pvE_icmp_eq, pvE_iinc, pvIc_s, pvE_goto, fX10_19, pvE_iastore, fX10_22, pvE_ireturn, bX10_takes_0, uX10_takes_0, bX10_takes_5, uX10_takes_5, bX10_takes_22, uX10_takes_22, bX10_takes_56, uX10_takes_56, bX10_takes_95, uX10_takes_95, bX10_takes_119, uX10_takes_119, bX10_takes_148, uX10_takes_148, pvMk_t, pvMk_f, pvMk_n, pvRecv_r, pvUp_nl, pvUp_same, pvUp_ap, pvSt_ap, pvX_c, pvX_ms, pvX_mn, pvE_nil, pvEn_i, pvEn_r, pvEn_l, pvEn_0, pvEn_s, pvRt, pvRv, pvTh, pvKc, pvGo, pvTgt, Int.toNat_natCast, false_and, and_false, true_and, and_true, if_true, if_false, reduceIte, reduceCtorEq, forall_const, false_or, or_false, true_or, or_true, ne_eq, not_true_eq_false, not_false_eq_true, implies_true, false_implies, Nat.reduceAdd, Nat.reduceSub, Nat.reduceMul, Nat.reduceEqDiff, Nat.reduceLT, Nat.reduceLeDiff, Int.reduceAdd, Int.reduceSub, Int.reduceMul, Int.reduceNeg, Int.reduceToNat, Int.reduceLE, Int.reduceLT, Int.reduceEq, Int.reduceNe, and_self]
          (repeat' first | with_reducible apply And.intro | with_reducible intro _)
          all_goals first
            | omega
            | exact q9
        · have g53 := f1.1 53 (by decide)
          obtain ⟨hl1, hl2⟩ := wc_ok wA wB hfd hF i (by omega)
          obtain ⟨k1', k2, k3⟩ := nk_sp (F := F) (i := i) (by omega) hl2
          have ewc : wcF A B F (i + 1) = stF1 A B (wcF A B F i) ((nkF A B F i (wcF A B F i) / 5 : Nat) : Int) ((nkF A B F i (wcF A B F i) % 5 : Nat) : Int) := rfl
          have ih' := fun z2 => ih (m - 1) (by omega) (i + 1) z2 (by omega)
          rw [ewc] at ih'
          have o1' : ∀ K : Nat, K = nkF A B F i (wcF A B F i) → ∀ z2 : pvM, z2.1 43 i = ((K % 5 : Nat) : Int) → z2.1 44 i = ((K / 5 : Nat) : Int) → (∀ j, j < i → z2.1 43 j = z'.1 43 j ∧ z2.1 44 j = z'.1 44 j) → ∀ j : Nat, j < i + 1 → z2.1 43 j = ((nkF A B F j (wcF A B F j) % 5 : Nat) : Int) ∧ z2.1 44 j = ((nkF A B F j (wcF A B F j) / 5 : Nat) : Int) := by
            intro K hK z2 a b d j hj
            by_cases e : j = i
            · subst e; rw [← hK]; exact ⟨a, b⟩
            · rw [(d j (by omega)).1, (d j (by omega)).2]; exact o1 j (by omega)
          obtain ⟨c, ec⟩ : ∃ c, wcF A B F i = c := ⟨_, rfl⟩
          rw [ec] at hl1 hl2 k1' k2 k3 ih' o1' ⊢
          obtain ⟨K, eK⟩ : ∃ K, nkF A B F i c = K := ⟨_, rfl⟩
          rw [eK] at k1' k2 k3 ih' o1'
          obtain ⟨hmc, elc⟩ := (sh_lq sh (by omega)).mp hl1
          have hok := (rq.2.2.2.2 _ hmc).1
          have hnr := nc_r hok
          have ecost := rc c hmc (by omega)
          rw [elc] at ecost
          have nxi : ∀ k : Nat, k < 15 → ∀ x, stF1 A B c ((k / 5 : Nat) : Int) ((k % 5 : Nat) : Int) = x → (x = -1 → nxC x = -1 ∧ ¬ nxP A B F i c k) ∧ (x ≠ -1 → okQ x ∧ nxC x = ndC x ∧ (z.1 53 (ndC x).toNat = (i : Int) + 1 → 0 ≤ z'.1 54 (ndC x).toNat ∧ z'.1 54 (ndC x).toNat ≤ 1000) ∧ (nxP A B F i c k ↔ (z.1 53 (ndC x).toNat = (i : Int) + 1 ∧ z'.1 54 (ndC x).toNat + ((k % 5 : Nat) : Int) = z'.1 54 (ndC c).toNat))) := by
            intro k hk x ex
            have hst := st_r wA wB hok (a := ((k / 5 : Nat) : Int)) (d := ((k % 5 : Nat) : Int)) (by omega) (by omega)
            rw [ex] at hst
            refine ⟨fun e => ⟨if_pos e, fun hp => ?_⟩, fun e => ?_⟩
            · have := hp.1
              rw [ex, lvB_t] at this
              have := (rc_ok wA wB _ _ this.1).1
              omega
            · have hokx : okQ x := hst.elim (fun h => absurd h e) id
              have edx := rq.2.2.1 _ hokx
              have hd : z.1 53 (ndC x).toNat = (i : Int) + 1 ↔ lqF A B (i + 1) x := by
                rw [sh_lq sh (by omega), edx]
                by_cases hmx : x ∈ Qs
                · rw [if_pos hmx]
                  constructor
                  · intro h; exact ⟨hmx, by omega⟩
                  · rintro ⟨_, h⟩; omega
                · rw [if_neg hmx]
                  constructor
                  · intro h; omega
                  · rintro ⟨h, _⟩; exact absurd h hmx
              have hc54 : lqF A B (i + 1) x → z'.1 54 (ndC x).toNat = coK A B F (F - (i + 1)) x := fun hl => by
                obtain ⟨hmx, elx⟩ := (sh_lq sh (by omega)).mp hl
                have := rc x hmx (by omega)
                rwa [elx] at this
              refine ⟨hokx, if_neg e, fun h => by rw [hc54 (hd.mp h)]; exact coK_r A B F _ _, ?_⟩
              unfold nxP
              rw [ex, lvB_t, hd]
              refine and_congr_right fun hl => ?_
              rw [hc54 hl, ecost]
          have inner : ∀ (mk k : Nat), k + mk = K → SW 56 [some (vR 39), some (vI s), some (vI (ndC c)), some (vI (i : Int)), some (vI (c / 256)), some (vI (k : Int)), some (vI (nxC (stF1 A B c ((k / 5 : Nat) : Int) ((k % 5 : Nat) : Int))))] z' := by
            intro mk
            induction mk using Nat.strongRecOn with
            | _ mk ihk =>
              intro k hk
              obtain ⟨x, ex⟩ : ∃ x, stF1 A B c ((k / 5 : Nat) : Int) ((k % 5 : Nat) : Int) = x := ⟨_, rfl⟩
              obtain ⟨n1, n2⟩ := nxi k (by omega) x ex
              rw [ex]
              have k5 : ((k : Int) % 5) = ((k % 5 : Nat) : Int) := by omega
              have k5' : ((k : Int) / 5) = ((k / 5 : Nat) : Int) := by omega
              have hcr := coK_r A B F (F - i) c
              refine hc 20 _ _ _ fun _ _ => ?_
              simp only [pvSt1]
              simp only [C_X10_follows, g53, k5, k5', pvE_aload_n0, pvLA_s, pvLd, pvE_iload_n1, pvLI_s, pvE_invokevirtual, pvC1_s, pvC2_s, pvAf_v, pvAf_x, pvPop, pvCs, pvCat, pvPush, aX10_takes_244, pvSh_0, pvSh_1, pvSh_2, pvSh_3, pvSh_4, pvSh_5, pvSh_6, pvSh_7, pvSh_8, pvSh_9, pvSh_10, pvSh_11, pvSh_12, pvSh_13, pvSh_14, pvSh_15, pvSh_16, pvSh_17, pvSh_18, pvSh_19, pvSh_20, pvSh_21, pvSh_22, pvSh_23, pvSh_24, pvSh_25, pvSh_26, pvSh_27, pvSh_28, pvSh_29, pvSh_30, pvSh_31, pvSh_32, pvSh_33, pvSh_34, pvSh_35, pvSh_36, pvSh_37, pvSh_38, pvSh_39, pvSh_40, pvSh_41, pvSh_42, pvSh_43, pvSh_44, pvSh_45, pvSh_46, pvSh_47, pvSh_48, pvSh_49, pvSh_50, pvSh_51, pvSh_52, pvSh_53, pvSh_54, pvSh_55, pvSh_56, pvSh_57, pvSh_58, pvSh_59, pvE_getfield, pvGf_0, pvGf_1, pvGf_2, fX10_60, pvRf_0_0, pvRf_0_1, pvRf_0_2, pvRf_0_3, pvRf_0_4, pvRf_0_5, pvRf_0_6, pvRf_0_7, pvRf_0_8, pvRf_0_9, pvRf_0_10, pvRf_1_0, pvRf_3_0, pvRf_5_0, pvRf_5_1, pvRf_5_2, pvRf_9_0, pvRf_9_1, pvRf_9_2, pvRf_13_0, pvRf_13_1, pvRf_13_2, pvRf_17_0, pvRf_17_2, pvRf_20_0, pvRf_20_1, pvRf_20_2, pvRf_24_0, pvRf_24_1, pvRf_24_2, pvRf_28_0, pvRf_28_1, pvRf_28_2, pvRf_28_3, pvRf_33_0, pvRf_33_1, pvRf_36_0, pvRf_36_1, pvRf_39_0, pvRf_39_1, pvRf_39_2, pvRf_39_5, pvRf_39_6, pvRf_39_9, pvRf_39_13, pvRf_39_15, pvRf_39_16, pvRf_39_17, pvRf_39_19, pvRf_39_20, pvRf_39_22, pvRf_39_23, pvRf_39_24, pvRf_39_25, pvRf_39_29, pvRf_39_30, pvE_iconst, pvE_iaload, pvAI, pvE_istore_n2, pvS1, List.length_cons, List.length_nil, pvClr_i, pvClr_r, pvClr_l, pvClr_d, pvClr_f, pvClr_n, fX10_228, pvE_putfield, pvPf_0, pvPf_1, fX10_158, pvE_istore_n3, pvE_iload_n3, pvE_icmp_ge, pvE_iload_n2, pvE_sipush, pvE_idiv, aX10_takes_237, pvE_istore, pvE_iload, aX10_takes_240, pvE_if_lt, fX10_54, pvE_iadd, pvE_icmp_ne, fX10_57, pvE_irem, pvE_icmp_eq, pvE_iinc, pvIc_s, pvE_goto, fX10_19, pvE_iastore, fX10_22, pvE_ireturn, bX10_takes_0, uX10_takes_0, bX10_takes_5, uX10_takes_5, bX10_takes_22, uX10_takes_22, bX10_takes_56, uX10_takes_56, bX10_takes_95, uX10_takes_95, bX10_takes_119, uX10_takes_119, bX10_takes_148, uX10_takes_148, pvMk_t, pvMk_f, pvMk_n, pvRecv_r, pvUp_nl, pvUp_same, pvUp_ap, pvSt_ap, pvX_c, pvX_ms, pvX_mn, pvE_nil, pvEn_i, pvEn_r, pvEn_l, pvEn_0, pvEn_s, pvRt, pvRv, pvTh, pvKc, pvGo, pvTgt, Int.toNat_natCast, false_and, and_false, true_and, and_true, if_true, if_false, reduceIte, reduceCtorEq, forall_const, false_or, or_false, true_or, or_true, ne_eq, not_true_eq_false, not_false_eq_true, implies_true, false_implies, Nat.reduceAdd, Nat.reduceSub, Nat.reduceMul, Nat.reduceEqDiff, Nat.reduceLT, Nat.reduceLeDiff, Int.reduceAdd, Int.reduceSub, Int.reduceMul, Int.reduceNeg, Int.reduceToNat, Int.reduceLE, Int.reduceLT, Int.reduceEq, Int.reduceNe, and_self]
              by_cases eKk : k = K
              · subst eKk
                by_cases ex1 : x = -1
                · exact absurd k2 (n1 ex1).2
                · obtain ⟨hokx, enx, hb, hiff⟩ := n2 ex1
                  obtain ⟨d1, d2⟩ := hiff.mp k2
                  have hnx := nc_r hokx
                  have hb1 := hb d1
                  rw [ex] at ih'
                  have q9 := ih' (pvUp (pvUp z'.1 43 i ((k % 5 : Nat) : Int)) 44 i ((k / 5 : Nat) : Int), z'.2) (by (repeat' first | assumption | exact frF_0 | (refine frF_u ?_ (by decide)) | (refine frF_s ?_ (by decide)) | (refine frF_l ?_ (by decide)))) (fun j hj => by simp (disch := omega) only [pvUp_ap, if_neg]; exact k1 j hj) (by simp (disch := omega) only [pvUp_ap, if_neg]; exact e7) (by
                    intro y hy hl
                    simp only [pvUp_nl, pvSt_ne, pvSt_eq, ne_eq, Nat.reduceEqDiff, not_false_eq_true]
                    exact rc y hy hl) (o1' k rfl _ (by simp [pvUp_ap]) (by simp [pvUp_ap]) (fun j hj => ⟨by simp (disch := omega) only [pvUp_ap, if_neg], by simp (disch := omega) only [pvUp_ap, if_neg]⟩))
                  rw [enx, d1, d2]
                  (repeat' first | with_reducible apply And.intro | with_reducible intro _)
                  all_goals first
                    | omega
                    | contradiction
                    | exact q9
              · have hno := k3 k (by omega)
                have q8 := ihk (mk - 1) (by omega) (k + 1) (by omega)
                have k6 : (((k : Int) + 1) % 5) = (((k + 1) % 5 : Nat) : Int) := by omega
                have k6' : (((k : Int) + 1) / 5) = (((k + 1) / 5 : Nat) : Int) := by omega
                have q9 : ∃ (A' B' : Aut) (c' : Int), (srP z' s A' B' ∧ okQ c' ∧ ndC c = ndC c' ∧ c / 256 = c' / 256 ∧ (0 ≤ ((k : Int) + 1) / 5 ∧ ((k : Int) + 1) / 5 ≤ 2) ∧ 0 ≤ ((k : Int) + 1) % 5 ∧ ((k : Int) + 1) % 5 ≤ 4) ∧ SW 56 [some (vR 39), some (vI s), some (vI (ndC c)), some (vI (i : Int)), some (vI (c / 256)), some (vI ((k : Int) + 1)), some (vI (nxC (stF1 A' B' c' (((k : Int) + 1) / 5) (((k : Int) + 1) % 5))))] z' :=
                  ⟨A, B, c, ⟨sr1, hok, rfl, rfl, by omega, by omega⟩, by rw [k6, k6']; exact q8⟩
                by_cases ex1 : x = -1
                · rw [(n1 ex1).1]
                  (repeat' first | with_reducible apply And.intro | with_reducible intro _)
                  all_goals first
                    | omega
                    | contradiction
                    | exact q9
                · obtain ⟨hokx, enx, hb, hiff⟩ := n2 ex1
                  have hnx := nc_r hokx
                  rw [hiff] at hno
                  rw [enx]
                  (repeat' first | with_reducible apply And.intro | with_reducible intro _)
                  all_goals first
                    | omega
                    | contradiction
                    | (have hb1 := hb (by assumption); omega)
                    | (have hb1 := hb (by omega); omega)
                    | (exfalso; exact hno ⟨by assumption, by assumption⟩)
                    | (exfalso; exact hno ⟨by omega, by omega⟩)
                    | exact q9
          have q8 := inner K 0 (by omega)
          have q9 : ∃ (A' B' : Aut) (c' : Int), (srP z' s A' B' ∧ okQ c' ∧ ndC c = ndC c' ∧ c / 256 = c' / 256) ∧ SW 56 [some (vR 39), some (vI s), some (vI (ndC c)), some (vI (i : Int)), some (vI (c / 256)), some (vI 0), some (vI (nxC (stF1 A' B' c' 0 0)))] z' :=
            ⟨A, B, c, ⟨sr1, hok, rfl, rfl⟩, q8⟩
          refine hc 20 _ _ _ fun _ _ => ?_
          simp only [pvSt1]
          simp only [C_X10_valueOf, C_X10_follows, g27, e27, pvE_aload_n0, pvLA_s, pvLd, pvE_iload_n1, pvLI_s, pvE_invokevirtual, pvC1_s, pvC2_s, pvAf_v, pvAf_x, pvPop, pvCs, pvCat, pvPush, aX10_takes_244, pvSh_0, pvSh_1, pvSh_2, pvSh_3, pvSh_4, pvSh_5, pvSh_6, pvSh_7, pvSh_8, pvSh_9, pvSh_10, pvSh_11, pvSh_12, pvSh_13, pvSh_14, pvSh_15, pvSh_16, pvSh_17, pvSh_18, pvSh_19, pvSh_20, pvSh_21, pvSh_22, pvSh_23, pvSh_24, pvSh_25, pvSh_26, pvSh_27, pvSh_28, pvSh_29, pvSh_30, pvSh_31, pvSh_32, pvSh_33, pvSh_34, pvSh_35, pvSh_36, pvSh_37, pvSh_38, pvSh_39, pvSh_40, pvSh_41, pvSh_42, pvSh_43, pvSh_44, pvSh_45, pvSh_46, pvSh_47, pvSh_48, pvSh_49, pvSh_50, pvSh_51, pvSh_52, pvSh_53, pvSh_54, pvSh_55, pvSh_56, pvSh_57, pvSh_58, pvSh_59, pvE_getfield, pvGf_0, pvGf_1, pvGf_2, fX10_60, pvRf_0_0, pvRf_0_1, pvRf_0_2, pvRf_0_3, pvRf_0_4, pvRf_0_5, pvRf_0_6, pvRf_0_7, pvRf_0_8, pvRf_0_9, pvRf_0_10, pvRf_1_0, pvRf_3_0, pvRf_5_0, pvRf_5_1, pvRf_5_2, pvRf_9_0, pvRf_9_1, pvRf_9_2, pvRf_13_0, pvRf_13_1, pvRf_13_2, pvRf_17_0, pvRf_17_2, pvRf_20_0, pvRf_20_1, pvRf_20_2, pvRf_24_0, pvRf_24_1, pvRf_24_2, pvRf_28_0, pvRf_28_1, pvRf_28_2, pvRf_28_3, pvRf_33_0, pvRf_33_1, pvRf_36_0, pvRf_36_1, pvRf_39_0, pvRf_39_1, pvRf_39_2, pvRf_39_5, pvRf_39_6, pvRf_39_9, pvRf_39_13, pvRf_39_15, pvRf_39_16, pvRf_39_17, pvRf_39_19, pvRf_39_20, pvRf_39_22, pvRf_39_23, pvRf_39_24, pvRf_39_25, pvRf_39_29, pvRf_39_30, pvE_iconst, pvE_iaload, pvAI, pvE_istore_n2, pvS1, List.length_cons, List.length_nil, pvClr_i, pvClr_r, pvClr_l, pvClr_d, pvClr_f, pvClr_n, fX10_228, pvE_putfield, pvPf_0, pvPf_1, fX10_158, pvE_istore_n3, pvE_iload_n3, pvE_icmp_ge, pvE_iload_n2, pvE_sipush, pvE_idiv, aX10_takes_237, pvE_istore, pvE_iload, aX10_takes_240, pvE_if_lt, fX10_54, pvE_iadd, pvE_icmp_ne, fX10_57, pvE_irem, pvE_icmp_eq, pvE_iinc, pvIc_s, pvE_goto, fX10_19, pvE_iastore, fX10_22, pvE_ireturn, bX10_takes_0, uX10_takes_0, bX10_takes_5, uX10_takes_5, bX10_takes_22, uX10_takes_22, bX10_takes_56, uX10_takes_56, bX10_takes_95, uX10_takes_95, bX10_takes_119, uX10_takes_119, bX10_takes_148, uX10_takes_148, pvMk_t, pvMk_f, pvMk_n, pvRecv_r, pvUp_nl, pvUp_same, pvUp_ap, pvSt_ap, pvX_c, pvX_ms, pvX_mn, pvE_nil, pvEn_i, pvEn_r, pvEn_l, pvEn_0, pvEn_s, pvRt, pvRv, pvTh, pvKc, pvGo, pvTgt, Int.toNat_natCast, false_and, and_false, true_and, and_true, if_true, if_false, reduceIte, reduceCtorEq, forall_const, false_or, or_false, true_or, or_true, ne_eq, not_true_eq_false, not_false_eq_true, implies_true, false_implies, Nat.reduceAdd, Nat.reduceSub, Nat.reduceMul, Nat.reduceEqDiff, Nat.reduceLT, Nat.reduceLeDiff, Int.reduceAdd, Int.reduceSub, Int.reduceMul, Int.reduceNeg, Int.reduceToNat, Int.reduceLE, Int.reduceLT, Int.reduceEq, Int.reduceNe, and_self]
          (repeat' first | with_reducible apply And.intro | with_reducible intro _)
          all_goals first
            | omega
            | skip
          all_goals
            refine ⟨c, ⟨sr1.2.2.2.2.1, hok, rfl⟩, ?_⟩
            (repeat' first | with_reducible apply And.intro | with_reducible intro _)
            all_goals first
              | omega
              | exact q9
              | (obtain ⟨A', B', c', h9, h8⟩ := q9
                 exact ⟨A', B', c', h9, by omega, h8⟩)
    have p5 : ∀ z' : pvM, frF [54] [] z z' → rcP A B z' Qs F → SW 5 [some (vR 39), some (vI s), none, none, none, none, none] z' := by
      intro z' f1 rc
      have g39 := f1.1 39 (by decide)
      have g55 := f1.1 55 (by decide)
      have e0 := rq.2.1 0 sh.2.1.1
      rw [sh.2.1.2] at e0
      have q9 := outer F 0 (pvUp z'.1 39 7 (F : Int), z'.2) (by omega) (frF_u (frF_t frF_0 f1 (by decide) (by decide)) (by decide)) (fun j hj => by simp (disch := omega) only [pvUp_ap, if_neg]; rw [g39]) (by simp [pvUp_ap]) (by
        intro y hy hl
        simp only [pvUp_nl, pvSt_ne, pvSt_eq, ne_eq, Nat.reduceEqDiff, not_false_eq_true]
        exact rc y hy hl) (fun j hj => absurd hj (Nat.not_lt_zero _))
      have ew0 : wcF A B F 0 = c0F A B := rfl
      rw [ew0] at q9
      refine hc 20 _ _ _ fun _ _ => ?_
      simp only [pvSt1]
      simp only [g39, g55, e27, e0, pvE_aload_n0, pvLA_s, pvLd, pvE_iload_n1, pvLI_s, pvE_invokevirtual, pvC1_s, pvC2_s, pvAf_v, pvAf_x, pvPop, pvCs, pvCat, pvPush, aX10_takes_244, pvSh_0, pvSh_1, pvSh_2, pvSh_3, pvSh_4, pvSh_5, pvSh_6, pvSh_7, pvSh_8, pvSh_9, pvSh_10, pvSh_11, pvSh_12, pvSh_13, pvSh_14, pvSh_15, pvSh_16, pvSh_17, pvSh_18, pvSh_19, pvSh_20, pvSh_21, pvSh_22, pvSh_23, pvSh_24, pvSh_25, pvSh_26, pvSh_27, pvSh_28, pvSh_29, pvSh_30, pvSh_31, pvSh_32, pvSh_33, pvSh_34, pvSh_35, pvSh_36, pvSh_37, pvSh_38, pvSh_39, pvSh_40, pvSh_41, pvSh_42, pvSh_43, pvSh_44, pvSh_45, pvSh_46, pvSh_47, pvSh_48, pvSh_49, pvSh_50, pvSh_51, pvSh_52, pvSh_53, pvSh_54, pvSh_55, pvSh_56, pvSh_57, pvSh_58, pvSh_59, pvE_getfield, pvGf_0, pvGf_1, pvGf_2, fX10_60, pvRf_0_0, pvRf_0_1, pvRf_0_2, pvRf_0_3, pvRf_0_4, pvRf_0_5, pvRf_0_6, pvRf_0_7, pvRf_0_8, pvRf_0_9, pvRf_0_10, pvRf_1_0, pvRf_3_0, pvRf_5_0, pvRf_5_1, pvRf_5_2, pvRf_9_0, pvRf_9_1, pvRf_9_2, pvRf_13_0, pvRf_13_1, pvRf_13_2, pvRf_17_0, pvRf_17_2, pvRf_20_0, pvRf_20_1, pvRf_20_2, pvRf_24_0, pvRf_24_1, pvRf_24_2, pvRf_28_0, pvRf_28_1, pvRf_28_2, pvRf_28_3, pvRf_33_0, pvRf_33_1, pvRf_36_0, pvRf_36_1, pvRf_39_0, pvRf_39_1, pvRf_39_2, pvRf_39_5, pvRf_39_6, pvRf_39_9, pvRf_39_13, pvRf_39_15, pvRf_39_16, pvRf_39_17, pvRf_39_19, pvRf_39_20, pvRf_39_22, pvRf_39_23, pvRf_39_24, pvRf_39_25, pvRf_39_29, pvRf_39_30, pvE_iconst, pvE_iaload, pvAI, pvE_istore_n2, pvS1, List.length_cons, List.length_nil, pvClr_i, pvClr_r, pvClr_l, pvClr_d, pvClr_f, pvClr_n, fX10_228, pvE_putfield, pvPf_0, pvPf_1, fX10_158, pvE_istore_n3, pvE_iload_n3, pvE_icmp_ge, pvE_iload_n2, pvE_sipush, pvE_idiv, aX10_takes_237, pvE_istore, pvE_iload, aX10_takes_240, pvE_if_lt, fX10_54, pvE_iadd, pvE_icmp_ne, fX10_57, pvE_irem, pvE_icmp_eq, pvE_iinc, pvIc_s, pvE_goto, fX10_19, pvE_iastore, fX10_22, pvE_ireturn, bX10_takes_0, uX10_takes_0, bX10_takes_5, uX10_takes_5, bX10_takes_22, uX10_takes_22, bX10_takes_56, uX10_takes_56, bX10_takes_95, uX10_takes_95, bX10_takes_119, uX10_takes_119, bX10_takes_148, uX10_takes_148, pvMk_t, pvMk_f, pvMk_n, pvRecv_r, pvUp_nl, pvUp_same, pvUp_ap, pvSt_ap, pvX_c, pvX_ms, pvX_mn, pvE_nil, pvEn_i, pvEn_r, pvEn_l, pvEn_0, pvEn_s, pvRt, pvRv, pvTh, pvKc, pvGo, pvTgt, Int.toNat_natCast, false_and, and_false, true_and, and_true, if_true, if_false, reduceIte, reduceCtorEq, forall_const, false_or, or_false, true_or, or_true, ne_eq, not_true_eq_false, not_false_eq_true, implies_true, false_implies, Nat.reduceAdd, Nat.reduceSub, Nat.reduceMul, Nat.reduceEqDiff, Nat.reduceLT, Nat.reduceLeDiff, Int.reduceAdd, Int.reduceSub, Int.reduceMul, Int.reduceNeg, Int.reduceToNat, Int.reduceLE, Int.reduceLT, Int.reduceEq, Int.reduceNe, and_self]
      (repeat' first | with_reducible apply And.intro | with_reducible intro _)
      all_goals first
        | omega
        | exact q9
    refine hc 20 _ _ _ fun _ _ => ?_
    simp only [pvSt1]
    simp only [C_X10_costs, pvE_aload_n0, pvLA_s, pvLd, pvE_iload_n1, pvLI_s, pvE_invokevirtual, pvC1_s, pvC2_s, pvAf_v, pvAf_x, pvPop, pvCs, pvCat, pvPush, aX10_takes_244, pvSh_0, pvSh_1, pvSh_2, pvSh_3, pvSh_4, pvSh_5, pvSh_6, pvSh_7, pvSh_8, pvSh_9, pvSh_10, pvSh_11, pvSh_12, pvSh_13, pvSh_14, pvSh_15, pvSh_16, pvSh_17, pvSh_18, pvSh_19, pvSh_20, pvSh_21, pvSh_22, pvSh_23, pvSh_24, pvSh_25, pvSh_26, pvSh_27, pvSh_28, pvSh_29, pvSh_30, pvSh_31, pvSh_32, pvSh_33, pvSh_34, pvSh_35, pvSh_36, pvSh_37, pvSh_38, pvSh_39, pvSh_40, pvSh_41, pvSh_42, pvSh_43, pvSh_44, pvSh_45, pvSh_46, pvSh_47, pvSh_48, pvSh_49, pvSh_50, pvSh_51, pvSh_52, pvSh_53, pvSh_54, pvSh_55, pvSh_56, pvSh_57, pvSh_58, pvSh_59, pvE_getfield, pvGf_0, pvGf_1, pvGf_2, fX10_60, pvRf_0_0, pvRf_0_1, pvRf_0_2, pvRf_0_3, pvRf_0_4, pvRf_0_5, pvRf_0_6, pvRf_0_7, pvRf_0_8, pvRf_0_9, pvRf_0_10, pvRf_1_0, pvRf_3_0, pvRf_5_0, pvRf_5_1, pvRf_5_2, pvRf_9_0, pvRf_9_1, pvRf_9_2, pvRf_13_0, pvRf_13_1, pvRf_13_2, pvRf_17_0, pvRf_17_2, pvRf_20_0, pvRf_20_1, pvRf_20_2, pvRf_24_0, pvRf_24_1, pvRf_24_2, pvRf_28_0, pvRf_28_1, pvRf_28_2, pvRf_28_3, pvRf_33_0, pvRf_33_1, pvRf_36_0, pvRf_36_1, pvRf_39_0, pvRf_39_1, pvRf_39_2, pvRf_39_5, pvRf_39_6, pvRf_39_9, pvRf_39_13, pvRf_39_15, pvRf_39_16, pvRf_39_17, pvRf_39_19, pvRf_39_20, pvRf_39_22, pvRf_39_23, pvRf_39_24, pvRf_39_25, pvRf_39_29, pvRf_39_30, pvE_iconst, pvE_iaload, pvAI, pvE_istore_n2, pvS1, List.length_cons, List.length_nil, pvClr_i, pvClr_r, pvClr_l, pvClr_d, pvClr_f, pvClr_n, fX10_228, pvE_putfield, pvPf_0, pvPf_1, fX10_158, pvE_istore_n3, pvE_iload_n3, pvE_icmp_ge, pvE_iload_n2, pvE_sipush, pvE_idiv, aX10_takes_237, pvE_istore, pvE_iload, aX10_takes_240, pvE_if_lt, fX10_54, pvE_iadd, pvE_icmp_ne, fX10_57, pvE_irem, pvE_icmp_eq, pvE_iinc, pvIc_s, pvE_goto, fX10_19, pvE_iastore, fX10_22, pvE_ireturn, bX10_takes_0, uX10_takes_0, bX10_takes_5, uX10_takes_5, bX10_takes_22, uX10_takes_22, bX10_takes_56, uX10_takes_56, bX10_takes_95, uX10_takes_95, bX10_takes_119, uX10_takes_119, bX10_takes_148, uX10_takes_148, pvMk_t, pvMk_f, pvMk_n, pvRecv_r, pvUp_nl, pvUp_same, pvUp_ap, pvSt_ap, pvX_c, pvX_ms, pvX_mn, pvE_nil, pvEn_i, pvEn_r, pvEn_l, pvEn_0, pvEn_s, pvRt, pvRv, pvTh, pvKc, pvGo, pvTgt, Int.toNat_natCast, false_and, and_false, true_and, and_true, if_true, if_false, reduceIte, reduceCtorEq, forall_const, false_or, or_false, true_or, or_true, ne_eq, not_true_eq_false, not_false_eq_true, implies_true, false_implies, Nat.reduceAdd, Nat.reduceSub, Nat.reduceMul, Nat.reduceEqDiff, Nat.reduceLT, Nat.reduceLeDiff, Int.reduceAdd, Int.reduceSub, Int.reduceMul, Int.reduceNeg, Int.reduceToNat, Int.reduceLE, Int.reduceLT, Int.reduceEq, Int.reduceNe, and_self]
    (repeat' first | with_reducible apply And.intro | with_reducible intro _)
    all_goals first
      | omega
      | exact ⟨A, B, Qs, F, ⟨sr, sh⟩, fun z1 f1 rc => p5 z1 f1 rc⟩
  · exact h.elim
/-- what a search leaves of the reference's numbers -/
def seF2 (z z' : pvM) : Prop := (∀ j, j ≠ 7 → j ≠ 8 → j ≠ 26 → j ≠ 27 → j ≠ 28 → z'.1 39 j = z.1 39 j)
def C_X10_isEmpty : pvC
  | [.inr (.inr (.inl id)), .inl s], z, Q => id = 39 ∧ ((∀ s' : Int, 0 ≤ s' ∧ s' ≤ 1 → WfA (autR (z.1 40) s')) ∧ smP z) ∧
      (¬ (0 ≤ s ∧ s ≤ 1) → Q (.inl (some (vI 0))) (pvUp z.1 39 8 1, z.2)) ∧
      (0 ≤ s ∧ s ≤ 1 → ∀ z' : pvM, frF [39, 48, 53, 55] [] z z' → seF2 z z' → z'.1 39 7 = z.1 39 7 → z'.1 39 8 = 0 → ((∃ F, fdF (autR (z.1 40) s) emA F) → Q (.inl (some (vI 0))) z') ∧ ((¬ ∃ F, fdF (autR (z.1 40) s) emA F) → Q (.inl (some (vI 1))) z'))
  | _, _, _ => False
def bX10_isEmpty : Nat → List (Instr × Nat)
  | 0 => [(.aload_n 0, 1), (.iload_n 1, 1), (.invokestatic 80, 3), (.ifCond .eq 7, 3), (.iconst 0, 1), (.goto 4, 3)]
  | 12 => [(.iconst 1, 1)]
  | 13 => [(.putfield 73, 3), (.aload_n 0, 1), (.getfield 73, 3), (.ifCond .le 5, 3), (.iconst 0, 1), (.ireturn, 1)]
  | 25 => [(.aload_n 0, 1), (.iload_n 1, 1), (.iconst 0, 1), (.invokevirtual 247, 3), (.aload_n 0, 1), (.getfield 228, 3), (.ifCond .ge 7, 3), (.iconst 1, 1), (.goto 4, 3)]
  | 42 => [(.iconst 0, 1)]
  | 43 => [(.ireturn, 1)]
  | _ => []
def uX10_isEmpty : Nat → Option (List Bool)
  | _ => none
def aX10_isEmpty : pvCa
  | 80 => some (1, true, 0, 0, C_X10_isSlot)
  | 247 => some (3, false, 9, 0, C_X10_searches)
  | _ => none
theorem bX10_isEmpty_0 : bX10_isEmpty 0 = [(.aload_n 0, 1), (.iload_n 1, 1), (.invokestatic 80, 3), (.ifCond .eq 7, 3), (.iconst 0, 1), (.goto 4, 3)] := rfl
theorem uX10_isEmpty_0 : uX10_isEmpty 0 = none := rfl
theorem bX10_isEmpty_12 : bX10_isEmpty 12 = [(.iconst 1, 1)] := rfl
theorem uX10_isEmpty_12 : uX10_isEmpty 12 = none := rfl
theorem bX10_isEmpty_13 : bX10_isEmpty 13 = [(.putfield 73, 3), (.aload_n 0, 1), (.getfield 73, 3), (.ifCond .le 5, 3), (.iconst 0, 1), (.ireturn, 1)] := rfl
theorem uX10_isEmpty_13 : uX10_isEmpty 13 = none := rfl
theorem bX10_isEmpty_25 : bX10_isEmpty 25 = [(.aload_n 0, 1), (.iload_n 1, 1), (.iconst 0, 1), (.invokevirtual 247, 3), (.aload_n 0, 1), (.getfield 228, 3), (.ifCond .ge 7, 3), (.iconst 1, 1), (.goto 4, 3)] := rfl
theorem uX10_isEmpty_25 : uX10_isEmpty 25 = none := rfl
theorem bX10_isEmpty_42 : bX10_isEmpty 42 = [(.iconst 0, 1)] := rfl
theorem uX10_isEmpty_42 : uX10_isEmpty 42 = none := rfl
theorem bX10_isEmpty_43 : bX10_isEmpty 43 = [(.ireturn, 1)] := rfl
theorem uX10_isEmpty_43 : uX10_isEmpty 43 = none := rfl
theorem aX10_isEmpty_80 : aX10_isEmpty 80 = some (1, true, 0, 0, C_X10_isSlot) := rfl
theorem aX10_isEmpty_247 : aX10_isEmpty 247 = some (3, false, 9, 0, C_X10_searches) := rfl
def mX10_isEmpty : Room := { frames := 4, cells := 1, slots := 6, locals := 97 }
set_option maxRecDepth 100000 in
set_option maxHeartbeats 4000000 in
theorem okX10_isEmpty : pvOkM fX10 aX10_isEmpty kX10 eX10 (some .boolean) bX10_isEmpty uX10_isEmpty 2 C_X10_isEmpty := by
  intro Q SW hc as z h hS hz
  unfold C_X10_isEmpty at h
  split at h
  · rename_i id s
    obtain ⟨rfl, ⟨hws, hsm⟩, h1, h2⟩ := h
    refine ⟨Nat.le_of_ble_eq_true rfl, hc 20 _ _ _ fun _ _ => ?_⟩
    clear hc hS hz
    simp only [pvSt1]
    simp only [C_X10_isSlot, C_X10_searches, pvE_aload_n0, pvLA_s, pvLd, pvE_iload_n1, pvLI_s, pvE_invokestatic (h0 := eX10_80), pvC1_s, pvC2_s, pvAf_v, pvAf_x, pvPop, pvCs, pvCat, pvPush, aX10_isEmpty_80, pvE_if_eq, pvE_iconst, pvE_goto, pvE_putfield, pvPf_0, pvPf_1, fX10_73, pvSh_0, pvSh_1, pvSh_2, pvSh_3, pvSh_4, pvSh_5, pvSh_6, pvSh_7, pvSh_8, pvSh_9, pvSh_10, pvSh_11, pvSh_12, pvSh_13, pvSh_14, pvSh_15, pvSh_16, pvSh_17, pvSh_18, pvSh_19, pvSh_20, pvSh_21, pvSh_22, pvSh_23, pvSh_24, pvSh_25, pvSh_26, pvSh_27, pvSh_28, pvSh_29, pvSh_30, pvSh_31, pvSh_32, pvSh_33, pvSh_34, pvSh_35, pvSh_36, pvSh_37, pvSh_38, pvSh_39, pvSh_40, pvSh_41, pvSh_42, pvSh_43, pvSh_44, pvSh_45, pvSh_46, pvSh_47, pvSh_48, pvSh_49, pvSh_50, pvSh_51, pvSh_52, pvSh_53, pvSh_54, pvSh_55, pvSh_56, pvSh_57, pvSh_58, pvSh_59, pvE_getfield, pvGf_0, pvGf_1, pvGf_2, pvRf_0_0, pvRf_0_1, pvRf_0_2, pvRf_0_3, pvRf_0_4, pvRf_0_5, pvRf_0_6, pvRf_0_7, pvRf_0_8, pvRf_0_9, pvRf_0_10, pvRf_1_0, pvRf_3_0, pvRf_5_0, pvRf_5_1, pvRf_5_2, pvRf_9_0, pvRf_9_1, pvRf_9_2, pvRf_13_0, pvRf_13_1, pvRf_13_2, pvRf_17_0, pvRf_17_2, pvRf_20_0, pvRf_20_1, pvRf_20_2, pvRf_24_0, pvRf_24_1, pvRf_24_2, pvRf_28_0, pvRf_28_1, pvRf_28_2, pvRf_28_3, pvRf_33_0, pvRf_33_1, pvRf_36_0, pvRf_36_1, pvRf_39_0, pvRf_39_1, pvRf_39_2, pvRf_39_5, pvRf_39_6, pvRf_39_9, pvRf_39_13, pvRf_39_15, pvRf_39_16, pvRf_39_17, pvRf_39_19, pvRf_39_20, pvRf_39_22, pvRf_39_23, pvRf_39_24, pvRf_39_25, pvRf_39_29, pvRf_39_30, pvE_if_le, pvE_ireturn, pvE_invokevirtual, aX10_isEmpty_247, fX10_228, pvE_if_ge, bX10_isEmpty_0, uX10_isEmpty_0, bX10_isEmpty_12, uX10_isEmpty_12, bX10_isEmpty_13, uX10_isEmpty_13, bX10_isEmpty_25, uX10_isEmpty_25, bX10_isEmpty_42, uX10_isEmpty_42, bX10_isEmpty_43, uX10_isEmpty_43, pvRecv_r, pvUp_nl, pvUp_same, pvUp_ap, pvSt_ap, pvX_c, pvX_ms, pvX_mn, pvE_nil, pvEn_i, pvEn_r, pvEn_l, pvEn_0, pvEn_s, pvRt, pvRv, pvTh, pvKc, pvGo, pvTgt, Int.toNat_natCast, false_and, and_false, true_and, and_true, if_true, if_false, reduceIte, reduceCtorEq, forall_const, false_or, or_false, true_or, or_true, ne_eq, not_true_eq_false, not_false_eq_true, implies_true, false_implies, Nat.reduceAdd, Nat.reduceSub, Nat.reduceMul, Nat.reduceEqDiff, Nat.reduceLT, Nat.reduceLeDiff, Int.reduceAdd, Int.reduceSub, Int.reduceMul, Int.reduceNeg, Int.reduceToNat, Int.reduceLE, Int.reduceLT, Int.reduceEq, Int.reduceNe, and_self]
    have hsm' : smP (pvUp z.1 39 8 0, z.2) := by unfold smP; simp only [pvUp_nl, pvSt_ne, pvSt_eq, ne_eq, Nat.reduceEqDiff, not_false_eq_true]; exact hsm
    by_cases hs : 0 ≤ s ∧ s ≤ 1
    · (repeat' first | with_reducible apply And.intro | with_reducible intro _)
      all_goals first
        | omega
        | exact hws _ (by assumption)
        | exact hsm'
        | exact Or.inl rfl
        | skip
      all_goals
        rename frF [39, 48, 53, 55] [] _ _ => f1
        rename ∀ (j : Nat), ¬j = 26 → ¬j = 27 → ¬j = 28 → _ => k1
        rename sdF _ _ _ _ => sd
        rename _ = autR (z.1 40) s => eA
        rename _ = emA => eB
        subst eA eB
        obtain ⟨h3, h4⟩ := h2 hs _ (frF_t (frF_u frF_0 (by decide)) f1 (by decide) (by decide)) (fun j a b c d e => by rw [k1 j c d e, if_neg b]) (by rw [k1 7 (by decide) (by decide) (by decide)]; rfl) (by rw [k1 8 (by decide) (by decide) (by decide)]; rfl)
        rcases sd.2.2.2 with ⟨e, hn⟩ | ⟨F, e, hF, -, -⟩
        · have q9 := h4 hn
          (repeat' first | with_reducible apply And.intro | with_reducible intro _)
          all_goals first
            | omega
            | contradiction
            | exact q9
        · have q9 := h3 ⟨F, hF⟩
          (repeat' first | with_reducible apply And.intro | with_reducible intro _)
          all_goals first
            | omega
            | contradiction
            | exact q9
    · have h3 := h1 hs
      (repeat' first | with_reducible apply And.intro | with_reducible intro _)
      all_goals first
        | omega
        | assumption
        | contradiction
  · exact h.elim
def C_X10_isIncluded : pvC
  | [.inr (.inr (.inl id)), .inl s], z, Q => id = 39 ∧ ((∀ s' : Int, 0 ≤ s' ∧ s' ≤ 1 → WfA (autR (z.1 40) s')) ∧ smP z) ∧
      (¬ (0 ≤ s ∧ s ≤ 1) → Q (.inl (some (vI 0))) (pvUp z.1 39 8 1, z.2)) ∧
      (0 ≤ s ∧ s ≤ 1 → ∀ z' : pvM, frF [39, 48, 53, 55] [] z z' → seF2 z z' → z'.1 39 7 = z.1 39 7 → z'.1 39 8 = 0 → ((∃ F, fdF (autR (z.1 40) s) (autR (z.1 40) (1 - s)) F) → Q (.inl (some (vI 0))) z') ∧ ((¬ ∃ F, fdF (autR (z.1 40) s) (autR (z.1 40) (1 - s)) F) → Q (.inl (some (vI 1))) z'))
  | _, _, _ => False
def bX10_isIncluded : Nat → List (Instr × Nat)
  | 0 => [(.aload_n 0, 1), (.iload_n 1, 1), (.invokestatic 80, 3), (.ifCond .eq 7, 3), (.iconst 0, 1), (.goto 4, 3)]
  | 12 => [(.iconst 1, 1)]
  | 13 => [(.putfield 73, 3), (.aload_n 0, 1), (.getfield 73, 3), (.ifCond .le 5, 3), (.iconst 0, 1), (.ireturn, 1)]
  | 25 => [(.aload_n 0, 1), (.iload_n 1, 1), (.iconst 1, 1), (.invokevirtual 247, 3), (.aload_n 0, 1), (.getfield 228, 3), (.ifCond .ge 7, 3), (.iconst 1, 1), (.goto 4, 3)]
  | 42 => [(.iconst 0, 1)]
  | 43 => [(.ireturn, 1)]
  | _ => []
def uX10_isIncluded : Nat → Option (List Bool)
  | _ => none
def aX10_isIncluded : pvCa
  | 80 => some (1, true, 0, 0, C_X10_isSlot)
  | 247 => some (3, false, 9, 0, C_X10_searches)
  | _ => none
theorem bX10_isIncluded_0 : bX10_isIncluded 0 = [(.aload_n 0, 1), (.iload_n 1, 1), (.invokestatic 80, 3), (.ifCond .eq 7, 3), (.iconst 0, 1), (.goto 4, 3)] := rfl
theorem uX10_isIncluded_0 : uX10_isIncluded 0 = none := rfl
theorem bX10_isIncluded_12 : bX10_isIncluded 12 = [(.iconst 1, 1)] := rfl
theorem uX10_isIncluded_12 : uX10_isIncluded 12 = none := rfl
theorem bX10_isIncluded_13 : bX10_isIncluded 13 = [(.putfield 73, 3), (.aload_n 0, 1), (.getfield 73, 3), (.ifCond .le 5, 3), (.iconst 0, 1), (.ireturn, 1)] := rfl
theorem uX10_isIncluded_13 : uX10_isIncluded 13 = none := rfl
theorem bX10_isIncluded_25 : bX10_isIncluded 25 = [(.aload_n 0, 1), (.iload_n 1, 1), (.iconst 1, 1), (.invokevirtual 247, 3), (.aload_n 0, 1), (.getfield 228, 3), (.ifCond .ge 7, 3), (.iconst 1, 1), (.goto 4, 3)] := rfl
theorem uX10_isIncluded_25 : uX10_isIncluded 25 = none := rfl
theorem bX10_isIncluded_42 : bX10_isIncluded 42 = [(.iconst 0, 1)] := rfl
theorem uX10_isIncluded_42 : uX10_isIncluded 42 = none := rfl
theorem bX10_isIncluded_43 : bX10_isIncluded 43 = [(.ireturn, 1)] := rfl
theorem uX10_isIncluded_43 : uX10_isIncluded 43 = none := rfl
theorem aX10_isIncluded_80 : aX10_isIncluded 80 = some (1, true, 0, 0, C_X10_isSlot) := rfl
theorem aX10_isIncluded_247 : aX10_isIncluded 247 = some (3, false, 9, 0, C_X10_searches) := rfl
def mX10_isIncluded : Room := { frames := 4, cells := 1, slots := 6, locals := 97 }
set_option maxRecDepth 100000 in
set_option maxHeartbeats 4000000 in
theorem okX10_isIncluded : pvOkM fX10 aX10_isIncluded kX10 eX10 (some .boolean) bX10_isIncluded uX10_isIncluded 2 C_X10_isIncluded := by
  intro Q SW hc as z h hS hz
  unfold C_X10_isIncluded at h
  split at h
  · rename_i id s
    obtain ⟨rfl, ⟨hws, hsm⟩, h1, h2⟩ := h
    refine ⟨Nat.le_of_ble_eq_true rfl, hc 20 _ _ _ fun _ _ => ?_⟩
    clear hc hS hz
    simp only [pvSt1]
    simp only [C_X10_isSlot, C_X10_searches, pvE_aload_n0, pvLA_s, pvLd, pvE_iload_n1, pvLI_s, pvE_invokestatic (h0 := eX10_80), pvC1_s, pvC2_s, pvAf_v, pvAf_x, pvPop, pvCs, pvCat, pvPush, aX10_isIncluded_80, pvE_if_eq, pvE_iconst, pvE_goto, pvE_putfield, pvPf_0, pvPf_1, fX10_73, pvSh_0, pvSh_1, pvSh_2, pvSh_3, pvSh_4, pvSh_5, pvSh_6, pvSh_7, pvSh_8, pvSh_9, pvSh_10, pvSh_11, pvSh_12, pvSh_13, pvSh_14, pvSh_15, pvSh_16, pvSh_17, pvSh_18, pvSh_19, pvSh_20, pvSh_21, pvSh_22, pvSh_23, pvSh_24, pvSh_25, pvSh_26, pvSh_27, pvSh_28, pvSh_29, pvSh_30, pvSh_31, pvSh_32, pvSh_33, pvSh_34, pvSh_35, pvSh_36, pvSh_37, pvSh_38, pvSh_39, pvSh_40, pvSh_41, pvSh_42, pvSh_43, pvSh_44, pvSh_45, pvSh_46, pvSh_47, pvSh_48, pvSh_49, pvSh_50, pvSh_51, pvSh_52, pvSh_53, pvSh_54, pvSh_55, pvSh_56, pvSh_57, pvSh_58, pvSh_59, pvE_getfield, pvGf_0, pvGf_1, pvGf_2, pvRf_0_0, pvRf_0_1, pvRf_0_2, pvRf_0_3, pvRf_0_4, pvRf_0_5, pvRf_0_6, pvRf_0_7, pvRf_0_8, pvRf_0_9, pvRf_0_10, pvRf_1_0, pvRf_3_0, pvRf_5_0, pvRf_5_1, pvRf_5_2, pvRf_9_0, pvRf_9_1, pvRf_9_2, pvRf_13_0, pvRf_13_1, pvRf_13_2, pvRf_17_0, pvRf_17_2, pvRf_20_0, pvRf_20_1, pvRf_20_2, pvRf_24_0, pvRf_24_1, pvRf_24_2, pvRf_28_0, pvRf_28_1, pvRf_28_2, pvRf_28_3, pvRf_33_0, pvRf_33_1, pvRf_36_0, pvRf_36_1, pvRf_39_0, pvRf_39_1, pvRf_39_2, pvRf_39_5, pvRf_39_6, pvRf_39_9, pvRf_39_13, pvRf_39_15, pvRf_39_16, pvRf_39_17, pvRf_39_19, pvRf_39_20, pvRf_39_22, pvRf_39_23, pvRf_39_24, pvRf_39_25, pvRf_39_29, pvRf_39_30, pvE_if_le, pvE_ireturn, pvE_invokevirtual, aX10_isIncluded_247, fX10_228, pvE_if_ge, bX10_isIncluded_0, uX10_isIncluded_0, bX10_isIncluded_12, uX10_isIncluded_12, bX10_isIncluded_13, uX10_isIncluded_13, bX10_isIncluded_25, uX10_isIncluded_25, bX10_isIncluded_42, uX10_isIncluded_42, bX10_isIncluded_43, uX10_isIncluded_43, pvRecv_r, pvUp_nl, pvUp_same, pvUp_ap, pvSt_ap, pvX_c, pvX_ms, pvX_mn, pvE_nil, pvEn_i, pvEn_r, pvEn_l, pvEn_0, pvEn_s, pvRt, pvRv, pvTh, pvKc, pvGo, pvTgt, Int.toNat_natCast, false_and, and_false, true_and, and_true, if_true, if_false, reduceIte, reduceCtorEq, forall_const, false_or, or_false, true_or, or_true, ne_eq, not_true_eq_false, not_false_eq_true, implies_true, false_implies, Nat.reduceAdd, Nat.reduceSub, Nat.reduceMul, Nat.reduceEqDiff, Nat.reduceLT, Nat.reduceLeDiff, Int.reduceAdd, Int.reduceSub, Int.reduceMul, Int.reduceNeg, Int.reduceToNat, Int.reduceLE, Int.reduceLT, Int.reduceEq, Int.reduceNe, and_self]
    have hsm' : smP (pvUp z.1 39 8 0, z.2) := by unfold smP; simp only [pvUp_nl, pvSt_ne, pvSt_eq, ne_eq, Nat.reduceEqDiff, not_false_eq_true]; exact hsm
    by_cases hs : 0 ≤ s ∧ s ≤ 1
    · (repeat' first | with_reducible apply And.intro | with_reducible intro _)
      all_goals first
        | omega
        | exact hws _ (by assumption)
        | exact hsm'
        | exact Or.inr rfl
        | skip
      all_goals
        rename frF [39, 48, 53, 55] [] _ _ => f1
        rename ∀ (j : Nat), ¬j = 26 → ¬j = 27 → ¬j = 28 → _ => k1
        rename sdF _ _ _ _ => sd
        rename _ = autR (z.1 40) s => eA
        rename _ = autR (z.1 40) (1 - s) => eB
        subst eA eB
        obtain ⟨h3, h4⟩ := h2 hs _ (frF_t (frF_u frF_0 (by decide)) f1 (by decide) (by decide)) (fun j a b c d e => by rw [k1 j c d e, if_neg b]) (by rw [k1 7 (by decide) (by decide) (by decide)]; rfl) (by rw [k1 8 (by decide) (by decide) (by decide)]; rfl)
        rcases sd.2.2.2 with ⟨e, hn⟩ | ⟨F, e, hF, -, -⟩
        · have q9 := h4 hn
          (repeat' first | with_reducible apply And.intro | with_reducible intro _)
          all_goals first
            | omega
            | contradiction
            | exact q9
        · have q9 := h3 ⟨F, hF⟩
          (repeat' first | with_reducible apply And.intro | with_reducible intro _)
          all_goals first
            | omega
            | contradiction
            | exact q9
    · have h3 := h1 hs
      (repeat' first | with_reducible apply And.intro | with_reducible intro _)
      all_goals first
        | omega
        | assumption
        | contradiction
  · exact h.elim
def C_X10_takesBy : pvC
  | [.inr (.inr (.inl id)), .inl s, .inl pr], z, Q => id = 39 ∧ ((∀ s' : Int, 0 ≤ s' ∧ s' ≤ 1 → WfA (autR (z.1 40) s')) ∧ smP z ∧ (pr = 0 ∨ pr = 1)) ∧
      (¬ (0 ≤ s ∧ s ≤ 1) → Q (.inl (some (vI 0))) (pvUp z.1 39 8 1, z.2)) ∧
      (0 ≤ s ∧ s ≤ 1 → ∀ z' : pvM, frF [39, 43, 44, 48, 53, 54, 55] [] z z' → seF2 z z' →
        ((¬ ∃ F, F ≤ 10 ∧ fdF (autR (z.1 40) s) (if pr = 0 then emA else autR (z.1 40) (1 - s)) F) → frF [39, 48, 53, 55] [] z z' → z'.1 39 7 = z.1 39 7 → z'.1 39 8 = 2 → Q (.inl (some (vI 0))) z') ∧
        (∀ (F : Nat) (A B : Aut), A = autR (z.1 40) s → B = (if pr = 0 then emA else autR (z.1 40) (1 - s)) → F ≤ 10 → fdF A B F → z'.1 39 7 = F → z'.1 39 8 = 0 → (∀ j : Nat, j < F → z'.1 43 j = ((nkF A B F j (wcF A B F j) % 5 : Nat) : Int) ∧ z'.1 44 j = ((nkF A B F j (wcF A B F j) / 5 : Nat) : Int)) → Q (.inl (some (vI (F : Int)))) z'))
  | _, _, _ => False
def bX10_takesBy : Nat → List (Instr × Nat)
  | 0 => [(.aload_n 0, 1), (.iconst 0, 1), (.putfield 73, 3), (.iload_n 1, 1), (.invokestatic 80, 3), (.ifCond .ne 9, 3), (.aload_n 0, 1), (.iconst 1, 1), (.invokevirtual 87, 3), (.ireturn, 1)]
  | 18 => [(.aload_n 0, 1), (.iload_n 1, 1), (.iload_n 2, 1), (.invokevirtual 247, 3), (.aload_n 0, 1), (.getfield 228, 3), (.ifCond .lt 12, 3), (.aload_n 0, 1), (.getfield 228, 3), (.bipush 10, 2), (.if_icmp .le 11, 3)]
  | 40 => [(.aload_n 0, 1), (.iconst 2, 1), (.invokevirtual 87, 3), (.goto 8, 3)]
  | 48 => [(.aload_n 0, 1), (.iload_n 1, 1), (.invokevirtual 251, 3)]
  | 53 => [(.ireturn, 1)]
  | _ => []
def uX10_takesBy : Nat → Option (List Bool)
  | _ => none
def aX10_takesBy : pvCa
  | 80 => some (1, true, 0, 0, C_X10_isSlot)
  | 87 => some (2, false, 9, 0, C_X10_fails)
  | 247 => some (3, false, 9, 0, C_X10_searches)
  | 251 => some (2, false, 9, 0, C_X10_takes)
  | _ => none
theorem bX10_takesBy_0 : bX10_takesBy 0 = [(.aload_n 0, 1), (.iconst 0, 1), (.putfield 73, 3), (.iload_n 1, 1), (.invokestatic 80, 3), (.ifCond .ne 9, 3), (.aload_n 0, 1), (.iconst 1, 1), (.invokevirtual 87, 3), (.ireturn, 1)] := rfl
theorem uX10_takesBy_0 : uX10_takesBy 0 = none := rfl
theorem bX10_takesBy_18 : bX10_takesBy 18 = [(.aload_n 0, 1), (.iload_n 1, 1), (.iload_n 2, 1), (.invokevirtual 247, 3), (.aload_n 0, 1), (.getfield 228, 3), (.ifCond .lt 12, 3), (.aload_n 0, 1), (.getfield 228, 3), (.bipush 10, 2), (.if_icmp .le 11, 3)] := rfl
theorem uX10_takesBy_18 : uX10_takesBy 18 = none := rfl
theorem bX10_takesBy_40 : bX10_takesBy 40 = [(.aload_n 0, 1), (.iconst 2, 1), (.invokevirtual 87, 3), (.goto 8, 3)] := rfl
theorem uX10_takesBy_40 : uX10_takesBy 40 = none := rfl
theorem bX10_takesBy_48 : bX10_takesBy 48 = [(.aload_n 0, 1), (.iload_n 1, 1), (.invokevirtual 251, 3)] := rfl
theorem uX10_takesBy_48 : uX10_takesBy 48 = none := rfl
theorem bX10_takesBy_53 : bX10_takesBy 53 = [(.ireturn, 1)] := rfl
theorem uX10_takesBy_53 : uX10_takesBy 53 = none := rfl
theorem aX10_takesBy_80 : aX10_takesBy 80 = some (1, true, 0, 0, C_X10_isSlot) := rfl
theorem aX10_takesBy_87 : aX10_takesBy 87 = some (2, false, 9, 0, C_X10_fails) := rfl
theorem aX10_takesBy_247 : aX10_takesBy 247 = some (3, false, 9, 0, C_X10_searches) := rfl
theorem aX10_takesBy_251 : aX10_takesBy 251 = some (2, false, 9, 0, C_X10_takes) := rfl
def mX10_takesBy : Room := { frames := 5, cells := 1, slots := 6, locals := 122 }
set_option maxRecDepth 100000 in
set_option maxHeartbeats 4000000 in
theorem okX10_takesBy : pvOkM fX10 aX10_takesBy kX10 eX10 (some .int) bX10_takesBy uX10_takesBy 3 C_X10_takesBy := by
  intro Q SW hc as z h hS hz
  unfold C_X10_takesBy at h
  split at h
  · rename_i id s pr
    obtain ⟨rfl, ⟨hws, hsm, hpr⟩, h1, h2⟩ := h
    refine ⟨Nat.le_of_ble_eq_true rfl, hc 20 _ _ _ fun _ _ => ?_⟩
    clear hc hS hz
    simp only [pvSt1]
    simp only [C_X10_isSlot, C_X10_fails, C_X10_searches, C_X10_takes, pvE_aload_n0, pvLA_s, pvLd, pvE_iconst, pvE_putfield, pvPf_0, pvPf_1, fX10_73, pvSh_0, pvSh_1, pvSh_2, pvSh_3, pvSh_4, pvSh_5, pvSh_6, pvSh_7, pvSh_8, pvSh_9, pvSh_10, pvSh_11, pvSh_12, pvSh_13, pvSh_14, pvSh_15, pvSh_16, pvSh_17, pvSh_18, pvSh_19, pvSh_20, pvSh_21, pvSh_22, pvSh_23, pvSh_24, pvSh_25, pvSh_26, pvSh_27, pvSh_28, pvSh_29, pvSh_30, pvSh_31, pvSh_32, pvSh_33, pvSh_34, pvSh_35, pvSh_36, pvSh_37, pvSh_38, pvSh_39, pvSh_40, pvSh_41, pvSh_42, pvSh_43, pvSh_44, pvSh_45, pvSh_46, pvSh_47, pvSh_48, pvSh_49, pvSh_50, pvSh_51, pvSh_52, pvSh_53, pvSh_54, pvSh_55, pvSh_56, pvSh_57, pvSh_58, pvSh_59, pvE_iload_n1, pvLI_s, pvE_invokestatic (h0 := eX10_80), pvC1_s, pvC2_s, pvAf_v, pvAf_x, pvPop, pvCs, pvCat, pvPush, aX10_takesBy_80, pvE_if_ne, pvE_invokevirtual, aX10_takesBy_87, pvE_ireturn, pvE_iload_n2, aX10_takesBy_247, pvE_getfield, pvGf_0, pvGf_1, pvGf_2, fX10_228, pvRf_0_0, pvRf_0_1, pvRf_0_2, pvRf_0_3, pvRf_0_4, pvRf_0_5, pvRf_0_6, pvRf_0_7, pvRf_0_8, pvRf_0_9, pvRf_0_10, pvRf_1_0, pvRf_3_0, pvRf_5_0, pvRf_5_1, pvRf_5_2, pvRf_9_0, pvRf_9_1, pvRf_9_2, pvRf_13_0, pvRf_13_1, pvRf_13_2, pvRf_17_0, pvRf_17_2, pvRf_20_0, pvRf_20_1, pvRf_20_2, pvRf_24_0, pvRf_24_1, pvRf_24_2, pvRf_28_0, pvRf_28_1, pvRf_28_2, pvRf_28_3, pvRf_33_0, pvRf_33_1, pvRf_36_0, pvRf_36_1, pvRf_39_0, pvRf_39_1, pvRf_39_2, pvRf_39_5, pvRf_39_6, pvRf_39_9, pvRf_39_13, pvRf_39_15, pvRf_39_16, pvRf_39_17, pvRf_39_19, pvRf_39_20, pvRf_39_22, pvRf_39_23, pvRf_39_24, pvRf_39_25, pvRf_39_29, pvRf_39_30, pvE_if_lt, pvE_bipush, pvE_icmp_le, pvE_goto, aX10_takesBy_251, bX10_takesBy_0, uX10_takesBy_0, bX10_takesBy_18, uX10_takesBy_18, bX10_takesBy_40, uX10_takesBy_40, bX10_takesBy_48, uX10_takesBy_48, bX10_takesBy_53, uX10_takesBy_53, pvRecv_r, pvUp_nl, pvUp_same, pvUp_ap, pvSt_ap, pvX_c, pvX_ms, pvX_mn, pvE_nil, pvEn_i, pvEn_r, pvEn_l, pvEn_0, pvEn_s, pvRt, pvRv, pvTh, pvKc, pvGo, pvTgt, Int.toNat_natCast, false_and, and_false, true_and, and_true, if_true, if_false, reduceIte, reduceCtorEq, forall_const, false_or, or_false, true_or, or_true, ne_eq, not_true_eq_false, not_false_eq_true, implies_true, false_implies, Nat.reduceAdd, Nat.reduceSub, Nat.reduceMul, Nat.reduceEqDiff, Nat.reduceLT, Nat.reduceLeDiff, Int.reduceAdd, Int.reduceSub, Int.reduceMul, Int.reduceNeg, Int.reduceToNat, Int.reduceLE, Int.reduceLT, Int.reduceEq, Int.reduceNe, and_self]
    have hsm' : smP (pvUp z.1 39 8 0, z.2) := by unfold smP; simp only [pvUp_nl, pvSt_ne, pvSt_eq, ne_eq, Nat.reduceEqDiff, not_false_eq_true]; exact hsm
    by_cases hs : 0 ≤ s ∧ s ≤ 1
    · (repeat' first | with_reducible apply And.intro | with_reducible intro _)
      all_goals first
        | omega
        | exact hws _ (by assumption)
        | exact hsm'
        | skip
      all_goals
        rename frF [39, 48, 53, 55] [] _ _ => f1
        rename ∀ (j : Nat), ¬j = 26 → ¬j = 27 → ¬j = 28 → _ => k1
        rename sdF _ _ _ _ => sd
        rename srP _ _ _ _ => sr
        rename _ = autR (z.1 40) s => eA
        rename _ = (if pr = 0 then emA else autR (z.1 40) (1 - s)) => eB
        subst eA eB
        rename pvM => z1
        rename List Int => Qs
        have f2 : frF [39, 48, 53, 55] [] z z1 := frF_t (frF_u frF_0 (by decide)) f1 (by decide) (by decide)
        have k2 : ∀ j, j ≠ 8 → j ≠ 26 → j ≠ 27 → j ≠ 28 → z1.1 39 j = z.1 39 j := fun j a b c d => by rw [k1 j b c d, if_neg a]
        have f8 : z1.1 39 8 = 0 := by rw [k1 8 (by decide) (by decide) (by decide)]; rfl
        have hno : (¬ ∃ F, F ≤ 10 ∧ fdF (autR (z.1 40) s) (if pr = 0 then emA else autR (z.1 40) (1 - s)) F) → Q (.inl (some (vI 0))) (pvUp z1.1 39 8 2, z1.2) := fun hn =>
          (h2 hs (pvUp z1.1 39 8 2, z1.2) (frF_u (frF_t frF_0 f2 (by decide) (by decide)) (by decide)) (fun j a b c d e => by simp (disch := omega) only [pvUp_ap, if_neg]; exact k2 j b c d e)).1 hn (frF_u f2 (by decide)) (by simp (disch := omega) only [pvUp_ap, if_neg]; exact k2 7 (by decide) (by decide) (by decide) (by decide)) (by simp [pvUp_ap])
        rcases sd.2.2.2 with ⟨e, hn⟩ | ⟨F, e, hF, hF5, hall⟩
        · first
            | (exfalso; omega)
            | exact hno (fun ⟨F, _, hF⟩ => hn ⟨F, hF⟩)
        · by_cases h10 : F ≤ 10
          · first
              | (exfalso; omega)
              | (refine ⟨_, _, Qs, F, ⟨sr, ⟨sd.1, sd.2.1, sd.2.2.1, e, hF5, hall⟩, hF, h10⟩, fun z2 f3 k3 e7 o3 => ?_⟩
                 exact (h2 hs z2 (frF_t (frF_t frF_0 f2 (by decide) (by decide)) f3 (by decide) (by decide)) (fun j a b c d e => by rw [k3 j a, k2 j b c d e])).2 F _ _ rfl rfl h10 hF e7 (by rw [k3 8 (by decide)]; exact f8) o3)
          · first
              | (exfalso; omega)
              | exact hno (fun ⟨G, g1, g2⟩ => by have := fd_un hF g2; omega)
    · have h3 := h1 hs
      (repeat' first | with_reducible apply And.intro | with_reducible intro _)
      all_goals first
        | omega
        | assumption
        | contradiction
  · exact h.elim
def C_X10_takeWitness : pvC
  | [.inr (.inr (.inl id)), .inl s], z, Q => id = 39 ∧ ((∀ s' : Int, 0 ≤ s' ∧ s' ≤ 1 → WfA (autR (z.1 40) s')) ∧ smP z) ∧
      (¬ (0 ≤ s ∧ s ≤ 1) → Q (.inl (some (vI 0))) (pvUp z.1 39 8 1, z.2)) ∧
      (0 ≤ s ∧ s ≤ 1 → ∀ z' : pvM, frF [39, 43, 44, 48, 53, 54, 55] [] z z' → seF2 z z' →
        ((¬ ∃ F, F ≤ 10 ∧ fdF (autR (z.1 40) s) emA F) → frF [39, 48, 53, 55] [] z z' → z'.1 39 7 = z.1 39 7 → z'.1 39 8 = 2 → Q (.inl (some (vI 0))) z') ∧
        (∀ (F : Nat) (A B : Aut), A = autR (z.1 40) s → B = emA → F ≤ 10 → fdF A B F → z'.1 39 7 = F → z'.1 39 8 = 0 → (∀ j : Nat, j < F → z'.1 43 j = ((nkF A B F j (wcF A B F j) % 5 : Nat) : Int) ∧ z'.1 44 j = ((nkF A B F j (wcF A B F j) / 5 : Nat) : Int)) → Q (.inl (some (vI (F : Int)))) z'))
  | _, _, _ => False
def bX10_takeWitness : Nat → List (Instr × Nat)
  | 0 => [(.aload_n 0, 1), (.iload_n 1, 1), (.iconst 0, 1), (.invokevirtual 254, 3), (.ireturn, 1)]
  | _ => []
def uX10_takeWitness : Nat → Option (List Bool)
  | _ => none
def aX10_takeWitness : pvCa
  | 254 => some (3, false, 9, 0, C_X10_takesBy)
  | _ => none
theorem bX10_takeWitness_0 : bX10_takeWitness 0 = [(.aload_n 0, 1), (.iload_n 1, 1), (.iconst 0, 1), (.invokevirtual 254, 3), (.ireturn, 1)] := rfl
theorem uX10_takeWitness_0 : uX10_takeWitness 0 = none := rfl
theorem aX10_takeWitness_254 : aX10_takeWitness 254 = some (3, false, 9, 0, C_X10_takesBy) := rfl
def mX10_takeWitness : Room := { frames := 6, cells := 1, slots := 6, locals := 144 }
set_option maxRecDepth 100000 in
set_option maxHeartbeats 4000000 in
theorem okX10_takeWitness : pvOkM fX10 aX10_takeWitness kX10 eX10 (some .int) bX10_takeWitness uX10_takeWitness 2 C_X10_takeWitness := by
  intro Q SW hc as z h hS hz
  unfold C_X10_takeWitness at h
  split at h
  · rename_i id s
    obtain ⟨rfl, ⟨hws, hsm⟩, h1, h2⟩ := h
    refine ⟨Nat.le_of_ble_eq_true rfl, hc 20 _ _ _ fun _ _ => ?_⟩
    clear hc hS hz
    simp only [pvSt1]
    simp only [C_X10_takesBy, pvE_aload_n0, pvLA_s, pvLd, pvE_iload_n1, pvLI_s, pvE_iconst, pvE_invokevirtual, pvC1_s, pvC2_s, pvAf_v, pvAf_x, pvPop, pvCs, pvCat, pvPush, aX10_takeWitness_254, pvSh_0, pvSh_1, pvSh_2, pvSh_3, pvSh_4, pvSh_5, pvSh_6, pvSh_7, pvSh_8, pvSh_9, pvSh_10, pvSh_11, pvSh_12, pvSh_13, pvSh_14, pvSh_15, pvSh_16, pvSh_17, pvSh_18, pvSh_19, pvSh_20, pvSh_21, pvSh_22, pvSh_23, pvSh_24, pvSh_25, pvSh_26, pvSh_27, pvSh_28, pvSh_29, pvSh_30, pvSh_31, pvSh_32, pvSh_33, pvSh_34, pvSh_35, pvSh_36, pvSh_37, pvSh_38, pvSh_39, pvSh_40, pvSh_41, pvSh_42, pvSh_43, pvSh_44, pvSh_45, pvSh_46, pvSh_47, pvSh_48, pvSh_49, pvSh_50, pvSh_51, pvSh_52, pvSh_53, pvSh_54, pvSh_55, pvSh_56, pvSh_57, pvSh_58, pvSh_59, pvE_ireturn, bX10_takeWitness_0, uX10_takeWitness_0, pvRecv_r, pvUp_nl, pvUp_same, pvUp_ap, pvSt_ap, pvX_c, pvX_ms, pvX_mn, pvE_nil, pvEn_i, pvEn_r, pvEn_l, pvEn_0, pvEn_s, pvRt, pvRv, pvTh, pvKc, pvGo, pvTgt, Int.toNat_natCast, false_and, and_false, true_and, and_true, if_true, if_false, reduceIte, reduceCtorEq, forall_const, false_or, or_false, true_or, or_true, ne_eq, not_true_eq_false, not_false_eq_true, implies_true, false_implies, Nat.reduceAdd, Nat.reduceSub, Nat.reduceMul, Nat.reduceEqDiff, Nat.reduceLT, Nat.reduceLeDiff, Int.reduceAdd, Int.reduceSub, Int.reduceMul, Int.reduceNeg, Int.reduceToNat, Int.reduceLE, Int.reduceLT, Int.reduceEq, Int.reduceNe, and_self]
    (repeat' first | with_reducible apply And.intro | with_reducible intro _)
    all_goals first
      | omega
      | assumption
      | exact hws _ (by assumption)
      | exact Or.inl rfl
      | exact Or.inr rfl
      | skip
    all_goals first
      | exact h1 (by assumption)
      | exact (h2 (by assumption) _ (by assumption) (by assumption)).1 (by assumption) (by assumption) (by assumption) (by assumption)
      | exact (h2 (by assumption) _ (by assumption) (by assumption)).2 _ _ _ (by assumption) (by assumption) (by assumption) (by assumption) (by assumption) (by assumption) (by assumption)
  · exact h.elim
def C_X10_takeDifference : pvC
  | [.inr (.inr (.inl id)), .inl s], z, Q => id = 39 ∧ ((∀ s' : Int, 0 ≤ s' ∧ s' ≤ 1 → WfA (autR (z.1 40) s')) ∧ smP z) ∧
      (¬ (0 ≤ s ∧ s ≤ 1) → Q (.inl (some (vI 0))) (pvUp z.1 39 8 1, z.2)) ∧
      (0 ≤ s ∧ s ≤ 1 → ∀ z' : pvM, frF [39, 43, 44, 48, 53, 54, 55] [] z z' → seF2 z z' →
        ((¬ ∃ F, F ≤ 10 ∧ fdF (autR (z.1 40) s) (autR (z.1 40) (1 - s)) F) → frF [39, 48, 53, 55] [] z z' → z'.1 39 7 = z.1 39 7 → z'.1 39 8 = 2 → Q (.inl (some (vI 0))) z') ∧
        (∀ (F : Nat) (A B : Aut), A = autR (z.1 40) s → B = (autR (z.1 40) (1 - s)) → F ≤ 10 → fdF A B F → z'.1 39 7 = F → z'.1 39 8 = 0 → (∀ j : Nat, j < F → z'.1 43 j = ((nkF A B F j (wcF A B F j) % 5 : Nat) : Int) ∧ z'.1 44 j = ((nkF A B F j (wcF A B F j) / 5 : Nat) : Int)) → Q (.inl (some (vI (F : Int)))) z'))
  | _, _, _ => False
def bX10_takeDifference : Nat → List (Instr × Nat)
  | 0 => [(.aload_n 0, 1), (.iload_n 1, 1), (.iconst 1, 1), (.invokevirtual 254, 3), (.ireturn, 1)]
  | _ => []
def uX10_takeDifference : Nat → Option (List Bool)
  | _ => none
def aX10_takeDifference : pvCa
  | 254 => some (3, false, 9, 0, C_X10_takesBy)
  | _ => none
theorem bX10_takeDifference_0 : bX10_takeDifference 0 = [(.aload_n 0, 1), (.iload_n 1, 1), (.iconst 1, 1), (.invokevirtual 254, 3), (.ireturn, 1)] := rfl
theorem uX10_takeDifference_0 : uX10_takeDifference 0 = none := rfl
theorem aX10_takeDifference_254 : aX10_takeDifference 254 = some (3, false, 9, 0, C_X10_takesBy) := rfl
def mX10_takeDifference : Room := { frames := 6, cells := 1, slots := 6, locals := 144 }
set_option maxRecDepth 100000 in
set_option maxHeartbeats 4000000 in
theorem okX10_takeDifference : pvOkM fX10 aX10_takeDifference kX10 eX10 (some .int) bX10_takeDifference uX10_takeDifference 2 C_X10_takeDifference := by
  intro Q SW hc as z h hS hz
  unfold C_X10_takeDifference at h
  split at h
  · rename_i id s
    obtain ⟨rfl, ⟨hws, hsm⟩, h1, h2⟩ := h
    refine ⟨Nat.le_of_ble_eq_true rfl, hc 20 _ _ _ fun _ _ => ?_⟩
    clear hc hS hz
    simp only [pvSt1]
    simp only [C_X10_takesBy, pvE_aload_n0, pvLA_s, pvLd, pvE_iload_n1, pvLI_s, pvE_iconst, pvE_invokevirtual, pvC1_s, pvC2_s, pvAf_v, pvAf_x, pvPop, pvCs, pvCat, pvPush, aX10_takeDifference_254, pvSh_0, pvSh_1, pvSh_2, pvSh_3, pvSh_4, pvSh_5, pvSh_6, pvSh_7, pvSh_8, pvSh_9, pvSh_10, pvSh_11, pvSh_12, pvSh_13, pvSh_14, pvSh_15, pvSh_16, pvSh_17, pvSh_18, pvSh_19, pvSh_20, pvSh_21, pvSh_22, pvSh_23, pvSh_24, pvSh_25, pvSh_26, pvSh_27, pvSh_28, pvSh_29, pvSh_30, pvSh_31, pvSh_32, pvSh_33, pvSh_34, pvSh_35, pvSh_36, pvSh_37, pvSh_38, pvSh_39, pvSh_40, pvSh_41, pvSh_42, pvSh_43, pvSh_44, pvSh_45, pvSh_46, pvSh_47, pvSh_48, pvSh_49, pvSh_50, pvSh_51, pvSh_52, pvSh_53, pvSh_54, pvSh_55, pvSh_56, pvSh_57, pvSh_58, pvSh_59, pvE_ireturn, bX10_takeDifference_0, uX10_takeDifference_0, pvRecv_r, pvUp_nl, pvUp_same, pvUp_ap, pvSt_ap, pvX_c, pvX_ms, pvX_mn, pvE_nil, pvEn_i, pvEn_r, pvEn_l, pvEn_0, pvEn_s, pvRt, pvRv, pvTh, pvKc, pvGo, pvTgt, Int.toNat_natCast, false_and, and_false, true_and, and_true, if_true, if_false, reduceIte, reduceCtorEq, forall_const, false_or, or_false, true_or, or_true, ne_eq, not_true_eq_false, not_false_eq_true, implies_true, false_implies, Nat.reduceAdd, Nat.reduceSub, Nat.reduceMul, Nat.reduceEqDiff, Nat.reduceLT, Nat.reduceLeDiff, Int.reduceAdd, Int.reduceSub, Int.reduceMul, Int.reduceNeg, Int.reduceToNat, Int.reduceLE, Int.reduceLT, Int.reduceEq, Int.reduceNe, and_self]
    (repeat' first | with_reducible apply And.intro | with_reducible intro _)
    all_goals first
      | omega
      | assumption
      | exact hws _ (by assumption)
      | exact Or.inl rfl
      | exact Or.inr rfl
      | skip
    all_goals first
      | exact h1 (by assumption)
      | exact (h2 (by assumption) _ (by assumption) (by assumption)).1 (by assumption) (by assumption) (by assumption) (by assumption)
      | exact (h2 (by assumption) _ (by assumption) (by assumption)).2 _ _ _ (by assumption) (by assumption) (by assumption) (by assumption) (by assumption) (by assumption) (by assumption)
  · exact h.elim
