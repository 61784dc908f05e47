/-! the reference: the targets of each letter, valuation and state -/
def ldK (f : Nat → Int) (s : Nat) (T : Nat → Nat → Int) (k : Nat) : Prop := ∀ a v q : Nat, a < 3 → v < 216 → q < 4 → (0 ≤ f (2592 * s + 864 * a + 4 * v + q) ∧ f (2592 * s + 864 * a + 4 * v + q) ≤ 15) ∧ ∀ r : Nat, r < 4 → (btF (f (2592 * s + 864 * a + 4 * v + q)) (r : Int) = true ↔ ∃ t, t < k ∧ T t 0 = q ∧ T t 2 = r ∧ T t 1 = a ∧ blF (T t) v < 0)
def ldP (f : Nat → Int) (s : Int) (A : Aut) : Prop := ldK f s.toNat A.2.2.2 A.1.toNat
theorem or2F : ∀ (x y : Fin 16), (0 ≤ pvOr ((x : Nat) : Int) ((y : Nat) : Int) ∧ pvOr ((x : Nat) : Int) ((y : Nat) : Int) ≤ 15) ∧ ∀ q : Fin 4, btF (pvOr ((x : Nat) : Int) ((y : Nat) : Int)) ((q : Nat) : Int) = (btF ((x : Nat) : Int) ((q : Nat) : Int) || btF ((y : Nat) : Int) ((q : Nat) : Int)) := by decide +kernel
theorem or2 {x y : Int} (hx : 0 ≤ x ∧ x ≤ 15) (hy : 0 ≤ y ∧ y ≤ 15) : (0 ≤ pvOr x y ∧ pvOr x y ≤ 15) ∧ ∀ q : Int, 0 ≤ q ∧ q ≤ 3 → btF (pvOr x y) q = (btF x q || btF y q) := by
  obtain ⟨a, rfl⟩ := fin_of (a := x) (n := 16) (by omega)
  obtain ⟨b, rfl⟩ := fin_of (a := y) (n := 16) (by omega)
  refine ⟨(or2F a b).1, fun q hq => ?_⟩
  obtain ⟨c, rfl⟩ := fin_of (a := q) (n := 4) (by omega)
  exact (or2F a b).2 c
theorem or0F : ∀ x : Fin 16, pvOr ((x : Nat) : Int) 0 = ((x : Nat) : Int) := by decide +kernel
theorem or0 {x : Int} (hx : 0 ≤ x ∧ x ≤ 15) : pvOr x 0 = x := by
  obtain ⟨a, rfl⟩ := fin_of (a := x) (n := 16) (by omega)
  exact or0F a
def C_X10_steps : pvC
  | [.inr (.inr (.inl id)), .inl s, .inl set, .inl a, .inl v], z, Q => id = 39 ∧ ((0 ≤ s ∧ s ≤ 1) ∧ (0 ≤ set ∧ set ≤ 15) ∧ (0 ≤ a ∧ a ≤ 2) ∧ (0 ≤ v ∧ v < 216) ∧ WfA (autR (z.1 40) s) ∧ ldP (z.1 48) s (autR (z.1 40) s)) ∧ Q (.inl (some (vI (sbF (autR (z.1 40) s) set a v)))) z
  | _, _, _ => False
def bX10_steps : Nat → List (Instr × Nat)
  | 0 => [(.sipush 2592, 3), (.iload_n 1, 1), (.imul, 1), (.sipush 864, 3), (.iload_n 3, 1), (.imul, 1), (.iadd, 1), (.iconst 4, 1), (.iload 4, 2), (.imul, 1), (.iadd, 1), (.istore 5, 2), (.iconst 0, 1), (.istore 6, 2), (.iconst 0, 1), (.istore 7, 2)]
  | 24 => [(.iload 7, 2), (.iconst 4, 1), (.if_icmp .ge 38, 3), (.iload 6, 2), (.iload_n 2, 1), (.iload 7, 2), (.ishr, 1), (.iconst 1, 1), (.iand, 1), (.iconst 1, 1), (.if_icmp .ne 16, 3), (.aload_n 0, 1), (.getfield 39, 3), (.iload 5, 2), (.iload 7, 2), (.iadd, 1), (.iaload, 1), (.goto 4, 3)]
  | 55 => [(.iconst 0, 1)]
  | 56 => [(.ior, 1), (.istore 6, 2), (.iinc 7 1, 3), (.goto (-38), 3)]
  | 65 => [(.iload 6, 2), (.ireturn, 1)]
  | _ => []
def uX10_steps : Nat → Option (List Bool)
  | 24 => some [true, false, true, false, false, true, true, true]
  | _ => none
def aX10_steps : pvCa
  | _ => none
theorem bX10_steps_0 : bX10_steps 0 = [(.sipush 2592, 3), (.iload_n 1, 1), (.imul, 1), (.sipush 864, 3), (.iload_n 3, 1), (.imul, 1), (.iadd, 1), (.iconst 4, 1), (.iload 4, 2), (.imul, 1), (.iadd, 1), (.istore 5, 2), (.iconst 0, 1), (.istore 6, 2), (.iconst 0, 1), (.istore 7, 2)] := rfl
theorem uX10_steps_0 : uX10_steps 0 = none := rfl
theorem bX10_steps_24 : bX10_steps 24 = [(.iload 7, 2), (.iconst 4, 1), (.if_icmp .ge 38, 3), (.iload 6, 2), (.iload_n 2, 1), (.iload 7, 2), (.ishr, 1), (.iconst 1, 1), (.iand, 1), (.iconst 1, 1), (.if_icmp .ne 16, 3), (.aload_n 0, 1), (.getfield 39, 3), (.iload 5, 2), (.iload 7, 2), (.iadd, 1), (.iaload, 1), (.goto 4, 3)] := rfl
theorem uX10_steps_24 : uX10_steps 24 = some [true, false, true, false, false, true, true, true] := rfl
theorem bX10_steps_55 : bX10_steps 55 = [(.iconst 0, 1)] := rfl
theorem uX10_steps_55 : uX10_steps 55 = none := rfl
theorem bX10_steps_56 : bX10_steps 56 = [(.ior, 1), (.istore 6, 2), (.iinc 7 1, 3), (.goto (-38), 3)] := rfl
theorem uX10_steps_56 : uX10_steps 56 = none := rfl
theorem bX10_steps_65 : bX10_steps 65 = [(.iload 6, 2), (.ireturn, 1)] := rfl
theorem uX10_steps_65 : uX10_steps 65 = none := rfl
def mX10_steps : Room := { frames := 0, cells := 1, slots := 6, locals := 0 }
set_option maxRecDepth 100000 in
set_option maxHeartbeats 4000000 in
theorem okX10_steps : pvOkM fX10 aX10_steps kX10 eX10 (some .int) bX10_steps uX10_steps 8 C_X10_steps := by
  intro Q SW hc as z h hS hz
  unfold C_X10_steps at h
  split at h
  · rename_i id s set a v
    obtain ⟨rfl, ⟨hs, hset, ha, hv, hw, hl⟩, h2⟩ := h
    obtain ⟨a, rfl⟩ : ∃ n : Nat, a = n := ⟨a.toNat, by omega⟩
    obtain ⟨v, rfl⟩ : ∃ n : Nat, v = n := ⟨v.toNat, by omega⟩
    refine ⟨Nat.le_of_ble_eq_true rfl, ?_⟩
    have loop : ∀ (m k : Nat) (x : Int), k + m = 4 → (0 ≤ x ∧ x ≤ 15) → (∀ r : Nat, r < 4 → (btF x (r : Int) = true ↔ ∃ q : Nat, q < k ∧ btF set (q : Int) = true ∧ btF (z.1 48 (2592 * s.toNat + 864 * a + 4 * v + q)) (r : Int) = true)) →
        SW 24 [some (vR 39), none, some (vI set), none, none, some (vI (2592 * s + 864 * (a : Int) + 4 * (v : Int))), some (vI x), some (vI (k : Int))] z := by
      intro m
      induction m using Nat.strongRecOn with
      | _ m ih =>
        intro k x hk hx o1
        refine hc 20 _ _ _ fun _ _ => ?_
        simp only [pvSt1]
        by_cases hx4 : 4 ≤ k
        · have e : x = sbF (autR (z.1 40) s) set a v := by
            refine bt_ext hx (sbF_r hw _ _ _) fun r hr => ?_
            have o2 := o1 r.toNat (by omega)
            rw [show ((r.toNat : Nat) : Int) = r by omega] at o2
            rw [o2]
            unfold sbF
            rw [sb_bt (n := (autR (z.1 40) s).1.toNat) (fun t ht => (hw.2.2.2 t (by omega)).2.2.1) _ _ _ hr _ (Nat.le_refl _)]
            constructor
            · rintro ⟨q, hq, h3, h4⟩
              have l2 := (hl a v q (by omega) (by omega) (by omega)).2 r.toNat (by omega)
              rw [show ((r.toNat : Nat) : Int) = r by omega] at l2
              obtain ⟨t, ht, t0, t2, t1, tb⟩ := l2.mp h4
              exact ⟨t, ht, t2, by rw [t0]; exact h3, t1, tb⟩
            · rintro ⟨t, ht, t2, t0, t1, tb⟩
              have hq := (hw.2.2.2 t (by omega)).1
              have l2 := (hl a v ((autR (z.1 40) s).2.2.2 t 0).toNat (by omega) (by omega) (by omega)).2 r.toNat (by omega)
              rw [show ((r.toNat : Nat) : Int) = r by omega] at l2
              exact ⟨((autR (z.1 40) s).2.2.2 t 0).toNat, by omega, by rw [show ((((autR (z.1 40) s).2.2.2 t 0).toNat : Nat) : Int) = (autR (z.1 40) s).2.2.2 t 0 by omega]; exact t0, l2.mpr ⟨t, ht, by omega, t2, t1, tb⟩⟩
          simp only [pvE_sipush, pvE_iload_n1, pvLI_s, pvLd, pvE_imul, pvE_iload_n3, pvE_iadd, pvE_iconst, pvE_iload, pvE_istore, pvS1, List.length_cons, List.length_nil, pvClr_i, pvClr_r, pvClr_l, pvClr_d, pvClr_f, pvClr_n, pvE_icmp_ge, pvE_iload_n2, pvE_ishr, pvE_iand, pvE_icmp_ne, pvE_aload_n0, pvLA_s, pvE_getfield, pvGf_0, pvGf_1, pvGf_2, fX10_39, pvSh_0, pvSh_1, pvSh_2, pvSh_3, pvSh_4, pvSh_5, pvSh_6, pvSh_7, pvSh_8, pvSh_9, pvSh_10, pvSh_11, pvSh_12, pvSh_13, pvSh_14, pvSh_15, pvSh_16, pvSh_17, pvSh_18, pvSh_19, pvSh_20, pvSh_21, pvSh_22, pvSh_23, pvSh_24, pvSh_25, pvSh_26, pvSh_27, pvSh_28, pvSh_29, pvSh_30, pvSh_31, pvSh_32, pvSh_33, pvSh_34, pvSh_35, pvSh_36, pvSh_37, pvSh_38, pvSh_39, pvSh_40, pvSh_41, pvSh_42, pvSh_43, pvSh_44, pvSh_45, pvSh_46, pvSh_47, pvSh_48, pvSh_49, pvSh_50, pvSh_51, pvSh_52, pvSh_53, pvSh_54, pvSh_55, pvSh_56, pvSh_57, pvSh_58, pvSh_59, pvRf_0_0, pvRf_0_1, pvRf_0_2, pvRf_0_3, pvRf_0_4, pvRf_0_5, pvRf_0_6, pvRf_0_7, pvRf_0_8, pvRf_0_9, pvRf_0_10, pvRf_1_0, pvRf_3_0, pvRf_5_0, pvRf_5_1, pvRf_5_2, pvRf_9_0, pvRf_9_1, pvRf_9_2, pvRf_13_0, pvRf_13_1, pvRf_13_2, pvRf_17_0, pvRf_17_2, pvRf_20_0, pvRf_20_1, pvRf_20_2, pvRf_24_0, pvRf_24_1, pvRf_24_2, pvRf_28_0, pvRf_28_1, pvRf_28_2, pvRf_28_3, pvRf_33_0, pvRf_33_1, pvRf_36_0, pvRf_36_1, pvRf_39_0, pvRf_39_1, pvRf_39_2, pvRf_39_5, pvRf_39_6, pvRf_39_9, pvRf_39_13, pvRf_39_15, pvRf_39_16, pvRf_39_17, pvRf_39_19, pvRf_39_20, pvRf_39_22, pvRf_39_23, pvRf_39_24, pvRf_39_25, pvRf_39_29, pvRf_39_30, pvE_iaload, pvAI, pvE_goto, pvE_ior, pvE_iinc, pvIc_s, pvE_ireturn, bX10_steps_0, uX10_steps_0, bX10_steps_24, uX10_steps_24, bX10_steps_55, uX10_steps_55, bX10_steps_56, uX10_steps_56, bX10_steps_65, uX10_steps_65, pvMk_t, pvMk_f, pvMk_n, pvRecv_r, pvUp_nl, pvUp_same, pvUp_ap, pvSt_ap, pvX_c, pvX_ms, pvX_mn, pvE_nil, pvEn_i, pvEn_r, pvEn_l, pvEn_0, pvEn_s, pvRt, pvRv, pvTh, pvKc, pvGo, pvTgt, Int.toNat_natCast, false_and, and_false, true_and, and_true, if_true, if_false, reduceIte, reduceCtorEq, forall_const, false_or, or_false, true_or, or_true, ne_eq, not_true_eq_false, not_false_eq_true, implies_true, false_implies, Nat.reduceAdd, Nat.reduceSub, Nat.reduceMul, Nat.reduceEqDiff, Nat.reduceLT, Nat.reduceLeDiff, Int.reduceAdd, Int.reduceSub, Int.reduceMul, Int.reduceNeg, Int.reduceToNat, Int.reduceLE, Int.reduceLT, Int.reduceEq, Int.reduceNe, and_self]
          rw [e]
          (repeat' (first | with_reducible apply And.intro | intro _))
          all_goals first
            | omega
            | exact h2
        · have hk4 : k < 4 := by omega
          have n1 : (2592 * s + 864 * (a : Int) + 4 * (v : Int) + (k : Int)).toNat = 2592 * s.toNat + 864 * a + 4 * v + k := by omega
          obtain ⟨l1, -⟩ := hl a v k (by omega) (by omega) hk4
          have hb := bt_eq (s := set) (q := (k : Int)) (by omega)
          obtain ⟨o2, o3⟩ := or2 hx l1
          simp only [n1, hb, pvE_sipush, pvE_iload_n1, pvLI_s, pvLd, pvE_imul, pvE_iload_n3, pvE_iadd, pvE_iconst, pvE_iload, pvE_istore, pvS1, List.length_cons, List.length_nil, pvClr_i, pvClr_r, pvClr_l, pvClr_d, pvClr_f, pvClr_n, pvE_icmp_ge, pvE_iload_n2, pvE_ishr, pvE_iand, pvE_icmp_ne, pvE_aload_n0, pvLA_s, pvE_getfield, pvGf_0, pvGf_1, pvGf_2, fX10_39, pvSh_0, pvSh_1, pvSh_2, pvSh_3, pvSh_4, pvSh_5, pvSh_6, pvSh_7, pvSh_8, pvSh_9, pvSh_10, pvSh_11, pvSh_12, pvSh_13, pvSh_14, pvSh_15, pvSh_16, pvSh_17, pvSh_18, pvSh_19, pvSh_20, pvSh_21, pvSh_22, pvSh_23, pvSh_24, pvSh_25, pvSh_26, pvSh_27, pvSh_28, pvSh_29, pvSh_30, pvSh_31, pvSh_32, pvSh_33, pvSh_34, pvSh_35, pvSh_36, pvSh_37, pvSh_38, pvSh_39, pvSh_40, pvSh_41, pvSh_42, pvSh_43, pvSh_44, pvSh_45, pvSh_46, pvSh_47, pvSh_48, pvSh_49, pvSh_50, pvSh_51, pvSh_52, pvSh_53, pvSh_54, pvSh_55, pvSh_56, pvSh_57, pvSh_58, pvSh_59, pvRf_0_0, pvRf_0_1, pvRf_0_2, pvRf_0_3, pvRf_0_4, pvRf_0_5, pvRf_0_6, pvRf_0_7, pvRf_0_8, pvRf_0_9, pvRf_0_10, pvRf_1_0, pvRf_3_0, pvRf_5_0, pvRf_5_1, pvRf_5_2, pvRf_9_0, pvRf_9_1, pvRf_9_2, pvRf_13_0, pvRf_13_1, pvRf_13_2, pvRf_17_0, pvRf_17_2, pvRf_20_0, pvRf_20_1, pvRf_20_2, pvRf_24_0, pvRf_24_1, pvRf_24_2, pvRf_28_0, pvRf_28_1, pvRf_28_2, pvRf_28_3, pvRf_33_0, pvRf_33_1, pvRf_36_0, pvRf_36_1, pvRf_39_0, pvRf_39_1, pvRf_39_2, pvRf_39_5, pvRf_39_6, pvRf_39_9, pvRf_39_13, pvRf_39_15, pvRf_39_16, pvRf_39_17, pvRf_39_19, pvRf_39_20, pvRf_39_22, pvRf_39_23, pvRf_39_24, pvRf_39_25, pvRf_39_29, pvRf_39_30, pvE_iaload, pvAI, pvE_goto, pvE_ior, pvE_iinc, pvIc_s, pvE_ireturn, bX10_steps_0, uX10_steps_0, bX10_steps_24, uX10_steps_24, bX10_steps_55, uX10_steps_55, bX10_steps_56, uX10_steps_56, bX10_steps_65, uX10_steps_65, pvMk_t, pvMk_f, pvMk_n, pvRecv_r, pvUp_nl, pvUp_same, pvUp_ap, pvSt_ap, pvX_c, pvX_ms, pvX_mn, pvE_nil, pvEn_i, pvEn_r, pvEn_l, pvEn_0, pvEn_s, pvRt, pvRv, pvTh, pvKc, pvGo, pvTgt, Int.toNat_natCast, false_and, and_false, true_and, and_true, if_true, if_false, reduceIte, reduceCtorEq, forall_const, false_or, or_false, true_or, or_true, ne_eq, not_true_eq_false, not_false_eq_true, implies_true, false_implies, Nat.reduceAdd, Nat.reduceSub, Nat.reduceMul, Nat.reduceEqDiff, Nat.reduceLT, Nat.reduceLeDiff, Int.reduceAdd, Int.reduceSub, Int.reduceMul, Int.reduceNeg, Int.reduceToNat, Int.reduceLE, Int.reduceLT, Int.reduceEq, Int.reduceNe, and_self]
          cases hbt : btF set (k : Int)
          · have q9 := ih (m - 1) (by omega) (k + 1) x (by omega) hx (fun r hr => by
              rw [o1 r hr]
              constructor
              · rintro ⟨q, hq, h9⟩; exact ⟨q, by omega, h9⟩
              · rintro ⟨q, hq, h9, h8⟩
                by_cases e : q = k
                · subst e; rw [hbt] at h9; exact absurd h9 (by decide)
                · exact ⟨q, by omega, h9, h8⟩)
            have q8 := or0 hx
            simp only [Bool.false_eq_true, if_false, reduceIte, q8]
            (repeat' (first | with_reducible apply And.intro | intro _))
            all_goals first
              | omega
              | contradiction
              | exact q9
          · have q9 := ih (m - 1) (by omega) (k + 1) (pvOr x (z.1 48 (2592 * s.toNat + 864 * a + 4 * v + k))) (by omega) o2 (fun r hr => by
              rw [o3 (r : Int) (by omega), Bool.or_eq_true, o1 r hr]
              constructor
              · rintro (⟨q, hq, h9⟩ | h9)
                · exact ⟨q, by omega, h9⟩
                · exact ⟨k, by omega, hbt, h9⟩
              · rintro ⟨q, hq, h9, h8⟩
                by_cases e : q = k
                · subst e; exact Or.inr h8
                · exact Or.inl ⟨q, by omega, h9, h8⟩)
            simp only [if_true, reduceIte]
            (repeat' (first | with_reducible apply And.intro | intro _))
            all_goals first
              | omega
              | contradiction
              | exact q9
    refine hc 20 _ _ _ fun _ _ => ?_
    simp only [pvSt1]
    simp only [pvE_sipush, pvE_iload_n1, pvLI_s, pvLd, pvE_imul, pvE_iload_n3, pvE_iadd, pvE_iconst, pvE_iload, pvE_istore, pvS1, List.length_cons, List.length_nil, pvClr_i, pvClr_r, pvClr_l, pvClr_d, pvClr_f, pvClr_n, pvE_icmp_ge, pvE_iload_n2, pvE_ishr, pvE_iand, pvE_icmp_ne, pvE_aload_n0, pvLA_s, pvE_getfield, pvGf_0, pvGf_1, pvGf_2, fX10_39, pvSh_0, pvSh_1, pvSh_2, pvSh_3, pvSh_4, pvSh_5, pvSh_6, pvSh_7, pvSh_8, pvSh_9, pvSh_10, pvSh_11, pvSh_12, pvSh_13, pvSh_14, pvSh_15, pvSh_16, pvSh_17, pvSh_18, pvSh_19, pvSh_20, pvSh_21, pvSh_22, pvSh_23, pvSh_24, pvSh_25, pvSh_26, pvSh_27, pvSh_28, pvSh_29, pvSh_30, pvSh_31, pvSh_32, pvSh_33, pvSh_34, pvSh_35, pvSh_36, pvSh_37, pvSh_38, pvSh_39, pvSh_40, pvSh_41, pvSh_42, pvSh_43, pvSh_44, pvSh_45, pvSh_46, pvSh_47, pvSh_48, pvSh_49, pvSh_50, pvSh_51, pvSh_52, pvSh_53, pvSh_54, pvSh_55, pvSh_56, pvSh_57, pvSh_58, pvSh_59, pvRf_0_0, pvRf_0_1, pvRf_0_2, pvRf_0_3, pvRf_0_4, pvRf_0_5, pvRf_0_6, pvRf_0_7, pvRf_0_8, pvRf_0_9, pvRf_0_10, pvRf_1_0, pvRf_3_0, pvRf_5_0, pvRf_5_1, pvRf_5_2, pvRf_9_0, pvRf_9_1, pvRf_9_2, pvRf_13_0, pvRf_13_1, pvRf_13_2, pvRf_17_0, pvRf_17_2, pvRf_20_0, pvRf_20_1, pvRf_20_2, pvRf_24_0, pvRf_24_1, pvRf_24_2, pvRf_28_0, pvRf_28_1, pvRf_28_2, pvRf_28_3, pvRf_33_0, pvRf_33_1, pvRf_36_0, pvRf_36_1, pvRf_39_0, pvRf_39_1, pvRf_39_2, pvRf_39_5, pvRf_39_6, pvRf_39_9, pvRf_39_13, pvRf_39_15, pvRf_39_16, pvRf_39_17, pvRf_39_19, pvRf_39_20, pvRf_39_22, pvRf_39_23, pvRf_39_24, pvRf_39_25, pvRf_39_29, pvRf_39_30, pvE_iaload, pvAI, pvE_goto, pvE_ior, pvE_iinc, pvIc_s, pvE_ireturn, bX10_steps_0, uX10_steps_0, bX10_steps_24, uX10_steps_24, bX10_steps_55, uX10_steps_55, bX10_steps_56, uX10_steps_56, bX10_steps_65, uX10_steps_65, pvMk_t, pvMk_f, pvMk_n, pvRecv_r, pvUp_nl, pvUp_same, pvUp_ap, pvSt_ap, pvX_c, pvX_ms, pvX_mn, pvE_nil, pvEn_i, pvEn_r, pvEn_l, pvEn_0, pvEn_s, pvRt, pvRv, pvTh, pvKc, pvGo, pvTgt, Int.toNat_natCast, false_and, and_false, true_and, and_true, if_true, if_false, reduceIte, reduceCtorEq, forall_const, false_or, or_false, true_or, or_true, ne_eq, not_true_eq_false, not_false_eq_true, implies_true, false_implies, Nat.reduceAdd, Nat.reduceSub, Nat.reduceMul, Nat.reduceEqDiff, Nat.reduceLT, Nat.reduceLeDiff, Int.reduceAdd, Int.reduceSub, Int.reduceMul, Int.reduceNeg, Int.reduceToNat, Int.reduceLE, Int.reduceLT, Int.reduceEq, Int.reduceNe, and_self]
    (repeat' (first | with_reducible apply And.intro | intro _))
    all_goals first
      | omega
      | exact loop 4 0 0 (by omega) (by decide) (fun r hr => ⟨fun h9 => absurd h9 (by unfold btF; simp), fun ⟨q, hq, _⟩ => absurd hq (Nat.not_lt_zero _)⟩)
  · exact h.elim
/-- of one transition more, laid for the first m valuations -/
def lvF (f f' : Nat → Int) (s : Nat) (T : Nat → Int) (m : Nat) : Prop := ∀ s' a v q : Nat, s' < 2 → a < 3 → v < 216 → q < 4 → f' (2592 * s' + 864 * a + 4 * v + q) = if (s' = s ∧ T 1 = a ∧ T 0 = q ∧ v < m) ∧ blF T v < 0 then pvOr (f (2592 * s' + 864 * a + 4 * v + q)) (pvShl 1 (T 2)) else f (2592 * s' + 864 * a + 4 * v + q)
theorem ldK_s {f f' : Nat → Int} {s s' : Nat} {T T' : Nat → Nat → Int} {k k' : Nat} (hs' : s' < 2) (h : ldK f s' T' k') (hv : lvF f f' s (T k) 216) (h2 : 0 ≤ T k 2 ∧ T k 2 ≤ 3) (hk : s' = s → T' = T ∧ k' = k) : ldK f' s' T' (if s' = s then k + 1 else k') := by
  intro a v q ha hv' hq
  obtain ⟨b1, b2⟩ := h a v q ha hv' hq
  have e := hv s' a v q hs' ha hv' hq
  by_cases es : s' = s
  · obtain ⟨rfl, rfl⟩ := hk es
    rw [if_pos es]
    by_cases e1 : (s' = s ∧ T' k' 1 = a ∧ T' k' 0 = q ∧ v < 216) ∧ blF (T' k') v < 0
    · rw [if_pos e1] at e
      rw [e]
      refine ⟨or15 b1 h2, fun r hr => ?_⟩
      rw [bt_or b1 h2 (by omega), Bool.or_eq_true, b2 r hr, decide_eq_true_iff]
      constructor
      · rintro (⟨t, ht, h9⟩ | h9)
        · exact ⟨t, by omega, h9⟩
        · exact ⟨k', by omega, e1.1.2.2.1, by omega, e1.1.2.1, e1.2⟩
      · rintro ⟨t, ht, t0, t2, h9⟩
        by_cases et : t = k'
        · subst et; exact Or.inr (by omega)
        · exact Or.inl ⟨t, by omega, t0, t2, h9⟩
    · rw [if_neg e1] at e
      rw [e]
      refine ⟨b1, fun r hr => ?_⟩
      rw [b2 r hr]
      constructor
      · rintro ⟨t, ht, h9⟩; exact ⟨t, by omega, h9⟩
      · rintro ⟨t, ht, t0, t2, t1, tb⟩
        by_cases et : t = k'
        · subst et; exact absurd ⟨⟨es, t1, t0, hv'⟩, tb⟩ e1
        · exact ⟨t, by omega, t0, t2, t1, tb⟩
  · rw [if_neg es]
    rw [if_neg (fun q => es q.1.1)] at e
    rw [e]
    exact ⟨b1, b2⟩
def C_X10_laysLeads : pvC
  | [.inr (.inr (.inl id))], z, Q => id = 39 ∧ (∀ s : Int, 0 ≤ s ∧ s ≤ 1 → WfA (autR (z.1 40) s)) ∧
      ∀ z' : pvM, frF [48] [] z z' → (∀ s : Int, 0 ≤ s ∧ s ≤ 1 → ldP (z'.1 48) s (autR (z.1 40) s)) → Q (.inl none) z'
  | _, _, _ => False
def bX10_laysLeads : Nat → List (Instr × Nat)
  | 0 => [(.iconst 0, 1), (.istore_n 1, 1)]
  | 2 => [(.iload_n 1, 1), (.sipush 5184, 3), (.if_icmp .ge 16, 3), (.aload_n 0, 1), (.getfield 39, 3), (.iload_n 1, 1), (.iconst 0, 1), (.iastore, 1), (.iinc 1 1, 3), (.goto (-17), 3)]
  | 22 => [(.iconst 0, 1), (.istore_n 1, 1)]
  | 24 => [(.iload_n 1, 1), (.iconst 2, 1), (.if_icmp .ge 119, 3), (.iconst 0, 1), (.istore_n 2, 1)]
  | 31 => [(.iload_n 2, 1), (.aload_n 0, 1), (.getfield 7, 3), (.sipush 163, 3), (.iload_n 1, 1), (.imul, 1), (.iconst 2, 1), (.iadd, 1), (.iaload, 1), (.if_icmp .ge 95, 3), (.iload_n 1, 1), (.iload_n 2, 1), (.invokestatic 130, 3), (.istore_n 3, 1), (.iconst 0, 1), (.istore 4, 2)]
  | 56 => [(.iload 4, 2), (.sipush 216, 3), (.if_icmp .ge 72, 3), (.aload_n 0, 1), (.getfield 39, 3), (.sipush 2592, 3), (.iload_n 1, 1), (.imul, 1), (.sipush 864, 3), (.aload_n 0, 1), (.getfield 7, 3), (.iload_n 3, 1), (.iconst 1, 1), (.iadd, 1), (.iaload, 1), (.imul, 1), (.iadd, 1), (.iconst 4, 1), (.iload 4, 2), (.imul, 1), (.iadd, 1), (.aload_n 0, 1), (.getfield 7, 3), (.iload_n 3, 1), (.iaload, 1), (.iadd, 1), (.dup2, 1), (.iaload, 1), (.aload_n 0, 1), (.iload_n 1, 1), (.iload_n 2, 1), (.iload 4, 2), (.invokevirtual 154, 3), (.ifCond .ge 16, 3), (.iconst 1, 1), (.aload_n 0, 1), (.getfield 7, 3), (.iload_n 3, 1), (.iconst 2, 1), (.iadd, 1), (.iaload, 1), (.ishl, 1), (.goto 4, 3)]
  | 124 => [(.iconst 0, 1)]
  | 125 => [(.ior, 1), (.iastore, 1), (.iinc 4 1, 3), (.goto (-74), 3)]
  | 133 => [(.iinc 2 1, 3), (.goto (-105), 3)]
  | 139 => [(.iinc 1 1, 3), (.goto (-118), 3)]
  | 145 => [(.return_, 1)]
  | _ => []
def uX10_laysLeads : Nat → Option (List Bool)
  | 2 => some [true, true, false, false, false]
  | 24 => some [true, true, false, false, false]
  | 31 => some [true, true, true, false, false]
  | 56 => some [true, true, true, true, true]
  | _ => none
def aX10_laysLeads : pvCa
  | 130 => some (2, true, 0, 0, C_X10_at)
  | 154 => some (4, false, 9, 0, C_X10_blocks)
  | _ => none
theorem bX10_laysLeads_0 : bX10_laysLeads 0 = [(.iconst 0, 1), (.istore_n 1, 1)] := rfl
theorem uX10_laysLeads_0 : uX10_laysLeads 0 = none := rfl
theorem bX10_laysLeads_2 : bX10_laysLeads 2 = [(.iload_n 1, 1), (.sipush 5184, 3), (.if_icmp .ge 16, 3), (.aload_n 0, 1), (.getfield 39, 3), (.iload_n 1, 1), (.iconst 0, 1), (.iastore, 1), (.iinc 1 1, 3), (.goto (-17), 3)] := rfl
theorem uX10_laysLeads_2 : uX10_laysLeads 2 = some [true, true, false, false, false] := rfl
theorem bX10_laysLeads_22 : bX10_laysLeads 22 = [(.iconst 0, 1), (.istore_n 1, 1)] := rfl
theorem uX10_laysLeads_22 : uX10_laysLeads 22 = none := rfl
theorem bX10_laysLeads_24 : bX10_laysLeads 24 = [(.iload_n 1, 1), (.iconst 2, 1), (.if_icmp .ge 119, 3), (.iconst 0, 1), (.istore_n 2, 1)] := rfl
theorem uX10_laysLeads_24 : uX10_laysLeads 24 = some [true, true, false, false, false] := rfl
theorem bX10_laysLeads_31 : bX10_laysLeads 31 = [(.iload_n 2, 1), (.aload_n 0, 1), (.getfield 7, 3), (.sipush 163, 3), (.iload_n 1, 1), (.imul, 1), (.iconst 2, 1), (.iadd, 1), (.iaload, 1), (.if_icmp .ge 95, 3), (.iload_n 1, 1), (.iload_n 2, 1), (.invokestatic 130, 3), (.istore_n 3, 1), (.iconst 0, 1), (.istore 4, 2)] := rfl
theorem uX10_laysLeads_31 : uX10_laysLeads 31 = some [true, true, true, false, false] := rfl
theorem bX10_laysLeads_56 : bX10_laysLeads 56 = [(.iload 4, 2), (.sipush 216, 3), (.if_icmp .ge 72, 3), (.aload_n 0, 1), (.getfield 39, 3), (.sipush 2592, 3), (.iload_n 1, 1), (.imul, 1), (.sipush 864, 3), (.aload_n 0, 1), (.getfield 7, 3), (.iload_n 3, 1), (.iconst 1, 1), (.iadd, 1), (.iaload, 1), (.imul, 1), (.iadd, 1), (.iconst 4, 1), (.iload 4, 2), (.imul, 1), (.iadd, 1), (.aload_n 0, 1), (.getfield 7, 3), (.iload_n 3, 1), (.iaload, 1), (.iadd, 1), (.dup2, 1), (.iaload, 1), (.aload_n 0, 1), (.iload_n 1, 1), (.iload_n 2, 1), (.iload 4, 2), (.invokevirtual 154, 3), (.ifCond .ge 16, 3), (.iconst 1, 1), (.aload_n 0, 1), (.getfield 7, 3), (.iload_n 3, 1), (.iconst 2, 1), (.iadd, 1), (.iaload, 1), (.ishl, 1), (.goto 4, 3)] := rfl
theorem uX10_laysLeads_56 : uX10_laysLeads 56 = some [true, true, true, true, true] := rfl
theorem bX10_laysLeads_124 : bX10_laysLeads 124 = [(.iconst 0, 1)] := rfl
theorem uX10_laysLeads_124 : uX10_laysLeads 124 = none := rfl
theorem bX10_laysLeads_125 : bX10_laysLeads 125 = [(.ior, 1), (.iastore, 1), (.iinc 4 1, 3), (.goto (-74), 3)] := rfl
theorem uX10_laysLeads_125 : uX10_laysLeads 125 = none := rfl
theorem bX10_laysLeads_133 : bX10_laysLeads 133 = [(.iinc 2 1, 3), (.goto (-105), 3)] := rfl
theorem uX10_laysLeads_133 : uX10_laysLeads 133 = none := rfl
theorem bX10_laysLeads_139 : bX10_laysLeads 139 = [(.iinc 1 1, 3), (.goto (-118), 3)] := rfl
theorem uX10_laysLeads_139 : uX10_laysLeads 139 = none := rfl
theorem bX10_laysLeads_145 : bX10_laysLeads 145 = [(.return_, 1)] := rfl
theorem uX10_laysLeads_145 : uX10_laysLeads 145 = none := rfl
theorem aX10_laysLeads_130 : aX10_laysLeads 130 = some (2, true, 0, 0, C_X10_at) := rfl
theorem aX10_laysLeads_154 : aX10_laysLeads 154 = some (4, false, 9, 0, C_X10_blocks) := rfl
def mX10_laysLeads : Room := { frames := 2, cells := 1, slots := 6, locals := 47 }
set_option maxRecDepth 100000 in
set_option maxHeartbeats 4000000 in
theorem okX10_laysLeads : pvOkM fX10 aX10_laysLeads kX10 eX10 none bX10_laysLeads uX10_laysLeads 5 C_X10_laysLeads := by
  intro Q SW hc as z h hS hz
  unfold C_X10_laysLeads at h
  split at h
  · rename_i id
    obtain ⟨rfl, hw, h2⟩ := h
    refine ⟨Nat.le_of_ble_eq_true rfl, ?_⟩
    have hn := fun s hs => (hw s hs).1
    have outer : ∀ (m s : Nat) (z' : pvM), s + m = 2 → frF [48] [] z z' → (∀ s' : Nat, s' < 2 → ldK (z'.1 48) s' (autR (z.1 40) s').2.2.2 (if s' < s then (autR (z.1 40) s').1.toNat else 0)) →
        SW 24 [some (vR 39), some (vI (s : Int)), none, none, none] z' := by
      intro m
      induction m using Nat.strongRecOn with
      | _ m ih =>
        intro s z' hs f1 o1
        have mid : ∀ (mt t : Nat) (z' : pvM), s < 2 → (t : Int) + mt = (autR (z.1 40) s).1 → frF [48] [] z z' → (∀ s' : Nat, s' < 2 → ldK (z'.1 48) s' (autR (z.1 40) s').2.2.2 (if s' < s then (autR (z.1 40) s').1.toNat else if s' = s then t else 0)) →
            SW 31 [some (vR 39), some (vI (s : Int)), some (vI (t : Int)), none, none] z' := by
          intro mt
          induction mt using Nat.strongRecOn with
          | _ mt iht =>
            intro t z' hs2 ht f1 o1
            have hns := hn s (by omega)
            have gn : z.1 40 (163 * (s : Int) + 2).toNat = (autR (z.1 40) s).1 := rS_n (by omega) rfl
            have g40 := f1.1 40 (by decide)
            have inner : ∀ (mv v : Nat) (z'' : pvM), v + mv = 216 → (t : Int) < (autR (z.1 40) s).1 → frF [48] [] z z'' → lvF (z'.1 48) (z''.1 48) s ((autR (z.1 40) s).2.2.2 t) v →
                SW 56 [some (vR 39), some (vI (s : Int)), some (vI (t : Int)), some (vI (163 * (s : Int) + 3 + 16 * (t : Int))), some (vI (v : Int))] z'' := by
              intro mv
              induction mv using Nat.strongRecOn with
              | _ mv ihv =>
                intro v z'' hv htn f2 o2
                have g40' := f2.1 40 (by decide)
                have hT := (hw s (by omega)).2.2.2 t htn
                have e := autR_T htn
                have g0 : z.1 40 (163 * (s : Int) + 3 + 16 * (t : Int)).toNat = (autR (z.1 40) s).2.2.2 t 0 := by rw [e, nrT_s (by decide)]; exact rT_eq (z.1 40) (by omega) (by omega)
                have g1 : z.1 40 (163 * (s : Int) + 3 + 16 * (t : Int) + 1).toNat = (autR (z.1 40) s).2.2.2 t 1 := by rw [e, nrT_s (by decide)]; exact rT_eq (z.1 40) (by omega) (by omega)
                have g2 : z.1 40 (163 * (s : Int) + 3 + 16 * (t : Int) + 2).toNat = (autR (z.1 40) s).2.2.2 t 2 := by rw [e, nrT_s (by decide)]; exact rT_eq (z.1 40) (by omega) (by omega)
                have T0 := hT.1
                have T1 := hT.2.1
                have T2 := hT.2.2.1
                have hWs := hw s (by omega)
                have n1 : (2592 * (s : Int) + 864 * (autR (z.1 40) s).2.2.2 t 1 + 4 * (v : Int) + (autR (z.1 40) s).2.2.2 t 0).toNat = 2592 * s + 864 * ((autR (z.1 40) s).2.2.2 t 1).toNat + 4 * v + ((autR (z.1 40) s).2.2.2 t 0).toNat := by omega
                refine hc 20 _ _ _ fun _ _ => ?_
                by_cases hx : 216 ≤ v
                · have q9 := iht (mt - 1) (by omega) (t + 1) z'' hs2 (by omega) f2 (fun s' hs' => by
                    have := ldK_s (s := s) hs' (o1 s' hs') (by rw [show v = 216 by omega] at o2; exact o2) T2 (fun e => by subst e; exact ⟨rfl, by rw [if_neg (by omega), if_pos rfl]⟩)
                    by_cases es : s' = s
                    · rw [if_pos es] at this
                      rw [if_neg (by omega), if_pos es]
                      exact this
                    · rw [if_neg es] at this
                      rw [if_neg es] at this ⊢
                      exact this)
                  simp only [pvSt1]
                  simp only [pvE_iconst, pvE_istore_n1, pvS1, List.length_cons, List.length_nil, pvClr_i, pvClr_r, pvClr_l, pvClr_d, pvClr_f, pvClr_n, pvE_iload_n1, pvLI_s, pvLd, pvE_sipush, pvE_icmp_ge, pvE_aload_n0, pvLA_s, pvE_getfield, pvGf_0, pvGf_1, pvGf_2, fX10_39, pvSh_0, pvSh_1, pvSh_2, pvSh_3, pvSh_4, pvSh_5, pvSh_6, pvSh_7, pvSh_8, pvSh_9, pvSh_10, pvSh_11, pvSh_12, pvSh_13, pvSh_14, pvSh_15, pvSh_16, pvSh_17, pvSh_18, pvSh_19, pvSh_20, pvSh_21, pvSh_22, pvSh_23, pvSh_24, pvSh_25, pvSh_26, pvSh_27, pvSh_28, pvSh_29, pvSh_30, pvSh_31, pvSh_32, pvSh_33, pvSh_34, pvSh_35, pvSh_36, pvSh_37, pvSh_38, pvSh_39, pvSh_40, pvSh_41, pvSh_42, pvSh_43, pvSh_44, pvSh_45, pvSh_46, pvSh_47, pvSh_48, pvSh_49, pvSh_50, pvSh_51, pvSh_52, pvSh_53, pvSh_54, pvSh_55, pvSh_56, pvSh_57, pvSh_58, pvSh_59, pvRf_0_0, pvRf_0_1, pvRf_0_2, pvRf_0_3, pvRf_0_4, pvRf_0_5, pvRf_0_6, pvRf_0_7, pvRf_0_8, pvRf_0_9, pvRf_0_10, pvRf_1_0, pvRf_3_0, pvRf_5_0, pvRf_5_1, pvRf_5_2, pvRf_9_0, pvRf_9_1, pvRf_9_2, pvRf_13_0, pvRf_13_1, pvRf_13_2, pvRf_17_0, pvRf_17_2, pvRf_20_0, pvRf_20_1, pvRf_20_2, pvRf_24_0, pvRf_24_1, pvRf_24_2, pvRf_28_0, pvRf_28_1, pvRf_28_2, pvRf_28_3, pvRf_33_0, pvRf_33_1, pvRf_36_0, pvRf_36_1, pvRf_39_0, pvRf_39_1, pvRf_39_2, pvRf_39_5, pvRf_39_6, pvRf_39_9, pvRf_39_13, pvRf_39_15, pvRf_39_16, pvRf_39_17, pvRf_39_19, pvRf_39_20, pvRf_39_22, pvRf_39_23, pvRf_39_24, pvRf_39_25, pvRf_39_29, pvRf_39_30, pvE_iastore, pvAI, pvE_iinc, pvIc_s, pvE_goto, pvE_istore_n2, pvE_iload_n2, fX10_7, pvE_imul, pvE_iadd, pvE_iaload, pvE_invokestatic (h0 := eX10_130), pvC1_s, pvC2_s, pvAf_v, pvAf_x, pvPop, pvCs, pvCat, pvPush, aX10_laysLeads_130, pvE_istore_n3, pvE_istore, pvE_iload, pvE_iload_n3, pvE_dup2, pvE_invokevirtual, aX10_laysLeads_154, pvE_if_ge, pvE_ishl, pvE_ior, pvE_return, bX10_laysLeads_0, uX10_laysLeads_0, bX10_laysLeads_2, uX10_laysLeads_2, bX10_laysLeads_22, uX10_laysLeads_22, bX10_laysLeads_24, uX10_laysLeads_24, bX10_laysLeads_31, uX10_laysLeads_31, bX10_laysLeads_56, uX10_laysLeads_56, bX10_laysLeads_124, uX10_laysLeads_124, bX10_laysLeads_125, uX10_laysLeads_125, bX10_laysLeads_133, uX10_laysLeads_133, bX10_laysLeads_139, uX10_laysLeads_139, bX10_laysLeads_145, uX10_laysLeads_145, pvMk_t, pvMk_f, pvMk_n, pvRecv_r, pvUp_nl, pvUp_same, pvUp_ap, pvSt_ap, pvX_c, pvX_ms, pvX_mn, pvE_nil, pvEn_i, pvEn_r, pvEn_l, pvEn_0, pvEn_s, pvRt, pvRv, pvTh, pvKc, pvGo, pvTgt, Int.toNat_natCast, false_and, and_false, true_and, and_true, if_true, if_false, reduceIte, reduceCtorEq, forall_const, false_or, or_false, true_or, or_true, ne_eq, not_true_eq_false, not_false_eq_true, implies_true, false_implies, Nat.reduceAdd, Nat.reduceSub, Nat.reduceMul, Nat.reduceEqDiff, Nat.reduceLT, Nat.reduceLeDiff, Int.reduceAdd, Int.reduceSub, Int.reduceMul, Int.reduceNeg, Int.reduceToNat, Int.reduceLE, Int.reduceLT, Int.reduceEq, Int.reduceNe, and_self]
                  (repeat' (first | with_reducible apply And.intro | intro _))
                  all_goals first
                    | omega
                    | exact q9
                · have lv : ∀ x : Int, x = (if blF ((autR (z.1 40) s).2.2.2 t) v < 0 then pvOr (z''.1 48 (2592 * s + 864 * ((autR (z.1 40) s).2.2.2 t 1).toNat + 4 * v + ((autR (z.1 40) s).2.2.2 t 0).toNat)) (pvShl 1 ((autR (z.1 40) s).2.2.2 t 2)) else z''.1 48 (2592 * s + 864 * ((autR (z.1 40) s).2.2.2 t 1).toNat + 4 * v + ((autR (z.1 40) s).2.2.2 t 0).toNat)) →
                      SW 56 [some (vR 39), some (vI (s : Int)), some (vI (t : Int)), some (vI (163 * (s : Int) + 3 + 16 * (t : Int))), some (vI ((v : Int) + 1))] (pvUp z''.1 48 (2592 * s + 864 * ((autR (z.1 40) s).2.2.2 t 1).toNat + 4 * v + ((autR (z.1 40) s).2.2.2 t 0).toNat) x, z''.2) := by
                    intro x hx'
                    refine ihv (mv - 1) (by omega) (v + 1) _ (by omega) htn (by (repeat' first | assumption | exact frF_0 | (refine frF_u ?_ (by decide)) | (refine frF_s ?_ (by decide)) | (refine frF_l ?_ (by decide)))) (fun s' a v' q h1 h2 h3 h4 => ?_)
                    have o3 := o2 s' a v' q h1 h2 h3 h4
                    simp only [pvUp_ap, true_and]
                    by_cases ei : 2592 * s' + 864 * a + 4 * v' + q = 2592 * s + 864 * ((autR (z.1 40) s).2.2.2 t 1).toNat + 4 * v + ((autR (z.1 40) s).2.2.2 t 0).toNat
                    · have es : s' = s := by omega
                      have ea : a = ((autR (z.1 40) s).2.2.2 t 1).toNat := by omega
                      have ev : v' = v := by omega
                      have eq : q = ((autR (z.1 40) s).2.2.2 t 0).toNat := by omega
                      rw [if_pos ei, hx']
                      rw [if_neg (by omega)] at o3
                      rw [← ei, o3, ev]
                      by_cases eb : blF ((autR (z.1 40) s).2.2.2 t) v < 0
                      · rw [if_pos eb, if_pos ⟨by omega, eb⟩]
                      · rw [if_neg eb, if_neg (fun h => eb h.2)]
                    · rw [if_neg ei, o3]
                      by_cases ec : (s' = s ∧ (autR (z.1 40) s).2.2.2 t 1 = a ∧ (autR (z.1 40) s).2.2.2 t 0 = q ∧ v' < v) ∧ blF ((autR (z.1 40) s).2.2.2 t) v' < 0
                      · rw [if_pos ec, if_pos ⟨by omega, ec.2⟩]
                      · rw [if_neg ec, if_neg (fun h => ec ⟨by omega, h.2⟩)]
                  have hzr := (hz 48 0)
                  simp only [pvSt1]
                  simp only [C_X10_blocks, g40', g0, g1, g2, n1, pvE_iconst, pvE_istore_n1, pvS1, List.length_cons, List.length_nil, pvClr_i, pvClr_r, pvClr_l, pvClr_d, pvClr_f, pvClr_n, pvE_iload_n1, pvLI_s, pvLd, pvE_sipush, pvE_icmp_ge, pvE_aload_n0, pvLA_s, pvE_getfield, pvGf_0, pvGf_1, pvGf_2, fX10_39, pvSh_0, pvSh_1, pvSh_2, pvSh_3, pvSh_4, pvSh_5, pvSh_6, pvSh_7, pvSh_8, pvSh_9, pvSh_10, pvSh_11, pvSh_12, pvSh_13, pvSh_14, pvSh_15, pvSh_16, pvSh_17, pvSh_18, pvSh_19, pvSh_20, pvSh_21, pvSh_22, pvSh_23, pvSh_24, pvSh_25, pvSh_26, pvSh_27, pvSh_28, pvSh_29, pvSh_30, pvSh_31, pvSh_32, pvSh_33, pvSh_34, pvSh_35, pvSh_36, pvSh_37, pvSh_38, pvSh_39, pvSh_40, pvSh_41, pvSh_42, pvSh_43, pvSh_44, pvSh_45, pvSh_46, pvSh_47, pvSh_48, pvSh_49, pvSh_50, pvSh_51, pvSh_52, pvSh_53, pvSh_54, pvSh_55, pvSh_56, pvSh_57, pvSh_58, pvSh_59, pvRf_0_0, pvRf_0_1, pvRf_0_2, pvRf_0_3, pvRf_0_4, pvRf_0_5, pvRf_0_6, pvRf_0_7, pvRf_0_8, pvRf_0_9, pvRf_0_10, pvRf_1_0, pvRf_3_0, pvRf_5_0, pvRf_5_1, pvRf_5_2, pvRf_9_0, pvRf_9_1, pvRf_9_2, pvRf_13_0, pvRf_13_1, pvRf_13_2, pvRf_17_0, pvRf_17_2, pvRf_20_0, pvRf_20_1, pvRf_20_2, pvRf_24_0, pvRf_24_1, pvRf_24_2, pvRf_28_0, pvRf_28_1, pvRf_28_2, pvRf_28_3, pvRf_33_0, pvRf_33_1, pvRf_36_0, pvRf_36_1, pvRf_39_0, pvRf_39_1, pvRf_39_2, pvRf_39_5, pvRf_39_6, pvRf_39_9, pvRf_39_13, pvRf_39_15, pvRf_39_16, pvRf_39_17, pvRf_39_19, pvRf_39_20, pvRf_39_22, pvRf_39_23, pvRf_39_24, pvRf_39_25, pvRf_39_29, pvRf_39_30, pvE_iastore, pvAI, pvE_iinc, pvIc_s, pvE_goto, pvE_istore_n2, pvE_iload_n2, fX10_7, pvE_imul, pvE_iadd, pvE_iaload, pvE_invokestatic (h0 := eX10_130), pvC1_s, pvC2_s, pvAf_v, pvAf_x, pvPop, pvCs, pvCat, pvPush, aX10_laysLeads_130, pvE_istore_n3, pvE_istore, pvE_iload, pvE_iload_n3, pvE_dup2, pvE_invokevirtual, aX10_laysLeads_154, pvE_if_ge, pvE_ishl, pvE_ior, pvE_return, bX10_laysLeads_0, uX10_laysLeads_0, bX10_laysLeads_2, uX10_laysLeads_2, bX10_laysLeads_22, uX10_laysLeads_22, bX10_laysLeads_24, uX10_laysLeads_24, bX10_laysLeads_31, uX10_laysLeads_31, bX10_laysLeads_56, uX10_laysLeads_56, bX10_laysLeads_124, uX10_laysLeads_124, bX10_laysLeads_125, uX10_laysLeads_125, bX10_laysLeads_133, uX10_laysLeads_133, bX10_laysLeads_139, uX10_laysLeads_139, bX10_laysLeads_145, uX10_laysLeads_145, pvMk_t, pvMk_f, pvMk_n, pvRecv_r, pvUp_nl, pvUp_same, pvUp_ap, pvSt_ap, pvX_c, pvX_ms, pvX_mn, pvE_nil, pvEn_i, pvEn_r, pvEn_l, pvEn_0, pvEn_s, pvRt, pvRv, pvTh, pvKc, pvGo, pvTgt, Int.toNat_natCast, false_and, and_false, true_and, and_true, if_true, if_false, reduceIte, reduceCtorEq, forall_const, false_or, or_false, true_or, or_true, ne_eq, not_true_eq_false, not_false_eq_true, implies_true, false_implies, Nat.reduceAdd, Nat.reduceSub, Nat.reduceMul, Nat.reduceEqDiff, Nat.reduceLT, Nat.reduceLeDiff, Int.reduceAdd, Int.reduceSub, Int.reduceMul, Int.reduceNeg, Int.reduceToNat, Int.reduceLE, Int.reduceLT, Int.reduceEq, Int.reduceNe, and_self]
                  by_cases eb : blF ((autR (z.1 40) s).2.2.2 t) v < 0
                  · have q9 := lv _ (if_pos eb).symm
                    (repeat' (first | with_reducible apply And.intro | intro _))
                    all_goals first
                      | omega
                      | assumption
                      | exact q9
                  · have q9 := lv _ (if_neg eb).symm
                    have q8 : pvOr (z''.1 48 (2592 * s + 864 * ((autR (z.1 40) s).2.2.2 t 1).toNat + 4 * v + ((autR (z.1 40) s).2.2.2 t 0).toNat)) 0 = z''.1 48 (2592 * s + 864 * ((autR (z.1 40) s).2.2.2 t 1).toNat + 4 * v + ((autR (z.1 40) s).2.2.2 t 0).toNat) := by
                      have o3 := o2 s ((autR (z.1 40) s).2.2.2 t 1).toNat v ((autR (z.1 40) s).2.2.2 t 0).toNat hs2 (by omega) (by omega) (by omega)
                      rw [if_neg (by omega)] at o3
                      rw [o3]
                      exact or0 (o1 s hs2 _ v _ (by omega) (by omega) (by omega)).1
                    rw [q8]
                    (repeat' (first | with_reducible apply And.intro | intro _))
                    all_goals first
                      | omega
                      | assumption
                      | exact q9
            refine hc 20 _ _ _ fun _ _ => ?_
            simp only [pvSt1]
            simp only [C_X10_at, g40, gn, pvE_iconst, pvE_istore_n1, pvS1, List.length_cons, List.length_nil, pvClr_i, pvClr_r, pvClr_l, pvClr_d, pvClr_f, pvClr_n, pvE_iload_n1, pvLI_s, pvLd, pvE_sipush, pvE_icmp_ge, pvE_aload_n0, pvLA_s, pvE_getfield, pvGf_0, pvGf_1, pvGf_2, fX10_39, pvSh_0, pvSh_1, pvSh_2, pvSh_3, pvSh_4, pvSh_5, pvSh_6, pvSh_7, pvSh_8, pvSh_9, pvSh_10, pvSh_11, pvSh_12, pvSh_13, pvSh_14, pvSh_15, pvSh_16, pvSh_17, pvSh_18, pvSh_19, pvSh_20, pvSh_21, pvSh_22, pvSh_23, pvSh_24, pvSh_25, pvSh_26, pvSh_27, pvSh_28, pvSh_29, pvSh_30, pvSh_31, pvSh_32, pvSh_33, pvSh_34, pvSh_35, pvSh_36, pvSh_37, pvSh_38, pvSh_39, pvSh_40, pvSh_41, pvSh_42, pvSh_43, pvSh_44, pvSh_45, pvSh_46, pvSh_47, pvSh_48, pvSh_49, pvSh_50, pvSh_51, pvSh_52, pvSh_53, pvSh_54, pvSh_55, pvSh_56, pvSh_57, pvSh_58, pvSh_59, pvRf_0_0, pvRf_0_1, pvRf_0_2, pvRf_0_3, pvRf_0_4, pvRf_0_5, pvRf_0_6, pvRf_0_7, pvRf_0_8, pvRf_0_9, pvRf_0_10, pvRf_1_0, pvRf_3_0, pvRf_5_0, pvRf_5_1, pvRf_5_2, pvRf_9_0, pvRf_9_1, pvRf_9_2, pvRf_13_0, pvRf_13_1, pvRf_13_2, pvRf_17_0, pvRf_17_2, pvRf_20_0, pvRf_20_1, pvRf_20_2, pvRf_24_0, pvRf_24_1, pvRf_24_2, pvRf_28_0, pvRf_28_1, pvRf_28_2, pvRf_28_3, pvRf_33_0, pvRf_33_1, pvRf_36_0, pvRf_36_1, pvRf_39_0, pvRf_39_1, pvRf_39_2, pvRf_39_5, pvRf_39_6, pvRf_39_9, pvRf_39_13, pvRf_39_15, pvRf_39_16, pvRf_39_17, pvRf_39_19, pvRf_39_20, pvRf_39_22, pvRf_39_23, pvRf_39_24, pvRf_39_25, pvRf_39_29, pvRf_39_30, pvE_iastore, pvAI, pvE_iinc, pvIc_s, pvE_goto, pvE_istore_n2, pvE_iload_n2, fX10_7, pvE_imul, pvE_iadd, pvE_iaload, pvE_invokestatic (h0 := eX10_130), pvC1_s, pvC2_s, pvAf_v, pvAf_x, pvPop, pvCs, pvCat, pvPush, aX10_laysLeads_130, pvE_istore_n3, pvE_istore, pvE_iload, pvE_iload_n3, pvE_dup2, pvE_invokevirtual, aX10_laysLeads_154, pvE_if_ge, pvE_ishl, pvE_ior, pvE_return, bX10_laysLeads_0, uX10_laysLeads_0, bX10_laysLeads_2, uX10_laysLeads_2, bX10_laysLeads_22, uX10_laysLeads_22, bX10_laysLeads_24, uX10_laysLeads_24, bX10_laysLeads_31, uX10_laysLeads_31, bX10_laysLeads_56, uX10_laysLeads_56, bX10_laysLeads_124, uX10_laysLeads_124, bX10_laysLeads_125, uX10_laysLeads_125, bX10_laysLeads_133, uX10_laysLeads_133, bX10_laysLeads_139, uX10_laysLeads_139, bX10_laysLeads_145, uX10_laysLeads_145, pvMk_t, pvMk_f, pvMk_n, pvRecv_r, pvUp_nl, pvUp_same, pvUp_ap, pvSt_ap, pvX_c, pvX_ms, pvX_mn, pvE_nil, pvEn_i, pvEn_r, pvEn_l, pvEn_0, pvEn_s, pvRt, pvRv, pvTh, pvKc, pvGo, pvTgt, Int.toNat_natCast, false_and, and_false, true_and, and_true, if_true, if_false, reduceIte, reduceCtorEq, forall_const, false_or, or_false, true_or, or_true, ne_eq, not_true_eq_false, not_false_eq_true, implies_true, false_implies, Nat.reduceAdd, Nat.reduceSub, Nat.reduceMul, Nat.reduceEqDiff, Nat.reduceLT, Nat.reduceLeDiff, Int.reduceAdd, Int.reduceSub, Int.reduceMul, Int.reduceNeg, Int.reduceToNat, Int.reduceLE, Int.reduceLT, Int.reduceEq, Int.reduceNe, and_self]
            by_cases hx : (autR (z.1 40) s).1 ≤ t
            · have q9 := ih (m - 1) (by omega) (s + 1) z' (by omega) f1 (fun s' hs' => by
                have := o1 s' hs'
                by_cases e : s' = s
                · subst e
                  rw [if_neg (by omega), if_pos rfl] at this
                  rw [if_pos (by omega), show (autR (z.1 40) (s' : Int)).1.toNat = t by omega]
                  exact this
                · rw [if_neg e] at this
                  by_cases e2 : s' < s
                  · rw [if_pos e2] at this; rw [if_pos (by omega)]; exact this
                  · rw [if_neg e2] at this; rw [if_neg (by omega)]; exact this)
              (repeat' (first | with_reducible apply And.intro | intro _))
              all_goals first
                | omega
                | exact q9
            · have q9 := inner 216 0 z' (by omega) (by omega) f1 (fun s' a v q _ _ _ _ => by rw [if_neg (by omega)])
              (repeat' (first | with_reducible apply And.intro | intro _))
              all_goals first
                | omega
                | exact q9
        refine hc 20 _ _ _ fun _ _ => ?_
        simp only [pvSt1]
        simp only [pvE_iconst, pvE_istore_n1, pvS1, List.length_cons, List.length_nil, pvClr_i, pvClr_r, pvClr_l, pvClr_d, pvClr_f, pvClr_n, pvE_iload_n1, pvLI_s, pvLd, pvE_sipush, pvE_icmp_ge, pvE_aload_n0, pvLA_s, pvE_getfield, pvGf_0, pvGf_1, pvGf_2, fX10_39, pvSh_0, pvSh_1, pvSh_2, pvSh_3, pvSh_4, pvSh_5, pvSh_6, pvSh_7, pvSh_8, pvSh_9, pvSh_10, pvSh_11, pvSh_12, pvSh_13, pvSh_14, pvSh_15, pvSh_16, pvSh_17, pvSh_18, pvSh_19, pvSh_20, pvSh_21, pvSh_22, pvSh_23, pvSh_24, pvSh_25, pvSh_26, pvSh_27, pvSh_28, pvSh_29, pvSh_30, pvSh_31, pvSh_32, pvSh_33, pvSh_34, pvSh_35, pvSh_36, pvSh_37, pvSh_38, pvSh_39, pvSh_40, pvSh_41, pvSh_42, pvSh_43, pvSh_44, pvSh_45, pvSh_46, pvSh_47, pvSh_48, pvSh_49, pvSh_50, pvSh_51, pvSh_52, pvSh_53, pvSh_54, pvSh_55, pvSh_56, pvSh_57, pvSh_58, pvSh_59, pvRf_0_0, pvRf_0_1, pvRf_0_2, pvRf_0_3, pvRf_0_4, pvRf_0_5, pvRf_0_6, pvRf_0_7, pvRf_0_8, pvRf_0_9, pvRf_0_10, pvRf_1_0, pvRf_3_0, pvRf_5_0, pvRf_5_1, pvRf_5_2, pvRf_9_0, pvRf_9_1, pvRf_9_2, pvRf_13_0, pvRf_13_1, pvRf_13_2, pvRf_17_0, pvRf_17_2, pvRf_20_0, pvRf_20_1, pvRf_20_2, pvRf_24_0, pvRf_24_1, pvRf_24_2, pvRf_28_0, pvRf_28_1, pvRf_28_2, pvRf_28_3, pvRf_33_0, pvRf_33_1, pvRf_36_0, pvRf_36_1, pvRf_39_0, pvRf_39_1, pvRf_39_2, pvRf_39_5, pvRf_39_6, pvRf_39_9, pvRf_39_13, pvRf_39_15, pvRf_39_16, pvRf_39_17, pvRf_39_19, pvRf_39_20, pvRf_39_22, pvRf_39_23, pvRf_39_24, pvRf_39_25, pvRf_39_29, pvRf_39_30, pvE_iastore, pvAI, pvE_iinc, pvIc_s, pvE_goto, pvE_istore_n2, pvE_iload_n2, fX10_7, pvE_imul, pvE_iadd, pvE_iaload, pvE_invokestatic (h0 := eX10_130), pvC1_s, pvC2_s, pvAf_v, pvAf_x, pvPop, pvCs, pvCat, pvPush, aX10_laysLeads_130, pvE_istore_n3, pvE_istore, pvE_iload, pvE_iload_n3, pvE_dup2, pvE_invokevirtual, aX10_laysLeads_154, pvE_if_ge, pvE_ishl, pvE_ior, pvE_return, bX10_laysLeads_0, uX10_laysLeads_0, bX10_laysLeads_2, uX10_laysLeads_2, bX10_laysLeads_22, uX10_laysLeads_22, bX10_laysLeads_24, uX10_laysLeads_24, bX10_laysLeads_31, uX10_laysLeads_31, bX10_laysLeads_56, uX10_laysLeads_56, bX10_laysLeads_124, uX10_laysLeads_124, bX10_laysLeads_125, uX10_laysLeads_125, bX10_laysLeads_133, uX10_laysLeads_133, bX10_laysLeads_139, uX10_laysLeads_139, bX10_laysLeads_145, uX10_laysLeads_145, pvMk_t, pvMk_f, pvMk_n, pvRecv_r, pvUp_nl, pvUp_same, pvUp_ap, pvSt_ap, pvX_c, pvX_ms, pvX_mn, pvE_nil, pvEn_i, pvEn_r, pvEn_l, pvEn_0, pvEn_s, pvRt, pvRv, pvTh, pvKc, pvGo, pvTgt, Int.toNat_natCast, false_and, and_false, true_and, and_true, if_true, if_false, reduceIte, reduceCtorEq, forall_const, false_or, or_false, true_or, or_true, ne_eq, not_true_eq_false, not_false_eq_true, implies_true, false_implies, Nat.reduceAdd, Nat.reduceSub, Nat.reduceMul, Nat.reduceEqDiff, Nat.reduceLT, Nat.reduceLeDiff, Int.reduceAdd, Int.reduceSub, Int.reduceMul, Int.reduceNeg, Int.reduceToNat, Int.reduceLE, Int.reduceLT, Int.reduceEq, Int.reduceNe, and_self]
        by_cases hx : 2 ≤ s
        · have q9 := h2 z' f1 (fun s' hs' => by
            have := o1 s'.toNat (by omega)
            rw [if_pos (by omega), show ((s'.toNat : Nat) : Int) = s' by omega] at this
            exact this)
          (repeat' (first | with_reducible apply And.intro | intro _))
          all_goals first
            | omega
            | exact q9
        · have hns := hn s (by omega)
          have q9 := mid (autR (z.1 40) s).1.toNat 0 z' (by omega) (by omega) f1 (fun s' hs' => by
            have := o1 s' hs'
            by_cases e : s' < s
            · rw [if_pos e] at this ⊢; exact this
            · rw [if_neg e] at this ⊢
              rw [show (if s' = s then 0 else 0) = 0 by split <;> rfl]
              exact this)
          (repeat' (first | with_reducible apply And.intro | intro _))
          all_goals first
            | omega
            | exact q9
    have zero : ∀ (m k : Nat) (z' : pvM), k + m = 5184 → frF [48] [] z z' → (∀ i : Nat, i < k → z'.1 48 i = 0) →
        SW 2 [some (vR 39), some (vI (k : Int)), none, none, none] z' := by
      intro m
      induction m using Nat.strongRecOn with
      | _ m ih =>
        intro k z' hk f1 o1
        refine hc 20 _ _ _ fun _ _ => ?_
        simp only [pvSt1]
        simp only [pvE_iconst, pvE_istore_n1, pvS1, List.length_cons, List.length_nil, pvClr_i, pvClr_r, pvClr_l, pvClr_d, pvClr_f, pvClr_n, pvE_iload_n1, pvLI_s, pvLd, pvE_sipush, pvE_icmp_ge, pvE_aload_n0, pvLA_s, pvE_getfield, pvGf_0, pvGf_1, pvGf_2, fX10_39, pvSh_0, pvSh_1, pvSh_2, pvSh_3, pvSh_4, pvSh_5, pvSh_6, pvSh_7, pvSh_8, pvSh_9, pvSh_10, pvSh_11, pvSh_12, pvSh_13, pvSh_14, pvSh_15, pvSh_16, pvSh_17, pvSh_18, pvSh_19, pvSh_20, pvSh_21, pvSh_22, pvSh_23, pvSh_24, pvSh_25, pvSh_26, pvSh_27, pvSh_28, pvSh_29, pvSh_30, pvSh_31, pvSh_32, pvSh_33, pvSh_34, pvSh_35, pvSh_36, pvSh_37, pvSh_38, pvSh_39, pvSh_40, pvSh_41, pvSh_42, pvSh_43, pvSh_44, pvSh_45, pvSh_46, pvSh_47, pvSh_48, pvSh_49, pvSh_50, pvSh_51, pvSh_52, pvSh_53, pvSh_54, pvSh_55, pvSh_56, pvSh_57, pvSh_58, pvSh_59, pvRf_0_0, pvRf_0_1, pvRf_0_2, pvRf_0_3, pvRf_0_4, pvRf_0_5, pvRf_0_6, pvRf_0_7, pvRf_0_8, pvRf_0_9, pvRf_0_10, pvRf_1_0, pvRf_3_0, pvRf_5_0, pvRf_5_1, pvRf_5_2, pvRf_9_0, pvRf_9_1, pvRf_9_2, pvRf_13_0, pvRf_13_1, pvRf_13_2, pvRf_17_0, pvRf_17_2, pvRf_20_0, pvRf_20_1, pvRf_20_2, pvRf_24_0, pvRf_24_1, pvRf_24_2, pvRf_28_0, pvRf_28_1, pvRf_28_2, pvRf_28_3, pvRf_33_0, pvRf_33_1, pvRf_36_0, pvRf_36_1, pvRf_39_0, pvRf_39_1, pvRf_39_2, pvRf_39_5, pvRf_39_6, pvRf_39_9, pvRf_39_13, pvRf_39_15, pvRf_39_16, pvRf_39_17, pvRf_39_19, pvRf_39_20, pvRf_39_22, pvRf_39_23, pvRf_39_24, pvRf_39_25, pvRf_39_29, pvRf_39_30, pvE_iastore, pvAI, pvE_iinc, pvIc_s, pvE_goto, pvE_istore_n2, pvE_iload_n2, fX10_7, pvE_imul, pvE_iadd, pvE_iaload, pvE_invokestatic (h0 := eX10_130), pvC1_s, pvC2_s, pvAf_v, pvAf_x, pvPop, pvCs, pvCat, pvPush, aX10_laysLeads_130, pvE_istore_n3, pvE_istore, pvE_iload, pvE_iload_n3, pvE_dup2, pvE_invokevirtual, aX10_laysLeads_154, pvE_if_ge, pvE_ishl, pvE_ior, pvE_return, bX10_laysLeads_0, uX10_laysLeads_0, bX10_laysLeads_2, uX10_laysLeads_2, bX10_laysLeads_22, uX10_laysLeads_22, bX10_laysLeads_24, uX10_laysLeads_24, bX10_laysLeads_31, uX10_laysLeads_31, bX10_laysLeads_56, uX10_laysLeads_56, bX10_laysLeads_124, uX10_laysLeads_124, bX10_laysLeads_125, uX10_laysLeads_125, bX10_laysLeads_133, uX10_laysLeads_133, bX10_laysLeads_139, uX10_laysLeads_139, bX10_laysLeads_145, uX10_laysLeads_145, pvMk_t, pvMk_f, pvMk_n, pvRecv_r, pvUp_nl, pvUp_same, pvUp_ap, pvSt_ap, pvX_c, pvX_ms, pvX_mn, pvE_nil, pvEn_i, pvEn_r, pvEn_l, pvEn_0, pvEn_s, pvRt, pvRv, pvTh, pvKc, pvGo, pvTgt, Int.toNat_natCast, false_and, and_false, true_and, and_true, if_true, if_false, reduceIte, reduceCtorEq, forall_const, false_or, or_false, true_or, or_true, ne_eq, not_true_eq_false, not_false_eq_true, implies_true, false_implies, Nat.reduceAdd, Nat.reduceSub, Nat.reduceMul, Nat.reduceEqDiff, Nat.reduceLT, Nat.reduceLeDiff, Int.reduceAdd, Int.reduceSub, Int.reduceMul, Int.reduceNeg, Int.reduceToNat, Int.reduceLE, Int.reduceLT, Int.reduceEq, Int.reduceNe, and_self]
        by_cases hx : 5184 ≤ k
        · have q9 := outer 2 0 z' (by omega) f1 (fun s' hs' => by
            rw [if_neg (by omega)]
            intro a v q ha hv hq
            rw [o1 _ (by omega)]
            refine ⟨by decide, fun r hr => ⟨fun h9 => absurd h9 (by unfold btF; simp), fun ⟨t, ht, _⟩ => absurd ht (Nat.not_lt_zero _)⟩⟩)
          (repeat' (first | with_reducible apply And.intro | intro _))
          all_goals first
            | omega
            | exact q9
        · have q9 := ih (m - 1) (by omega) (k + 1) (pvUp z'.1 48 k 0, z'.2) (by omega) (by (repeat' first | assumption | exact frF_0 | (refine frF_u ?_ (by decide)) | (refine frF_s ?_ (by decide)) | (refine frF_l ?_ (by decide)))) (fun i hi => by
            simp only [pvUp_ap, true_and]
            by_cases e : i = k
            · rw [if_pos e]
            · rw [if_neg e]; exact o1 i (by omega))
          (repeat' (first | with_reducible apply And.intro | intro _))
          all_goals first
            | omega
            | exact q9
    refine hc 20 _ _ _ fun _ _ => ?_
    simp only [pvSt1]
    simp only [pvE_iconst, pvE_istore_n1, pvS1, List.length_cons, List.length_nil, pvClr_i, pvClr_r, pvClr_l, pvClr_d, pvClr_f, pvClr_n, pvE_iload_n1, pvLI_s, pvLd, pvE_sipush, pvE_icmp_ge, pvE_aload_n0, pvLA_s, pvE_getfield, pvGf_0, pvGf_1, pvGf_2, fX10_39, pvSh_0, pvSh_1, pvSh_2, pvSh_3, pvSh_4, pvSh_5, pvSh_6, pvSh_7, pvSh_8, pvSh_9, pvSh_10, pvSh_11, pvSh_12, pvSh_13, pvSh_14, pvSh_15, pvSh_16, pvSh_17, pvSh_18, pvSh_19, pvSh_20, pvSh_21, pvSh_22, pvSh_23, pvSh_24, pvSh_25, pvSh_26, pvSh_27, pvSh_28, pvSh_29, pvSh_30, pvSh_31, pvSh_32, pvSh_33, pvSh_34, pvSh_35, pvSh_36, pvSh_37, pvSh_38, pvSh_39, pvSh_40, pvSh_41, pvSh_42, pvSh_43, pvSh_44, pvSh_45, pvSh_46, pvSh_47, pvSh_48, pvSh_49, pvSh_50, pvSh_51, pvSh_52, pvSh_53, pvSh_54, pvSh_55, pvSh_56, pvSh_57, pvSh_58, pvSh_59, pvRf_0_0, pvRf_0_1, pvRf_0_2, pvRf_0_3, pvRf_0_4, pvRf_0_5, pvRf_0_6, pvRf_0_7, pvRf_0_8, pvRf_0_9, pvRf_0_10, pvRf_1_0, pvRf_3_0, pvRf_5_0, pvRf_5_1, pvRf_5_2, pvRf_9_0, pvRf_9_1, pvRf_9_2, pvRf_13_0, pvRf_13_1, pvRf_13_2, pvRf_17_0, pvRf_17_2, pvRf_20_0, pvRf_20_1, pvRf_20_2, pvRf_24_0, pvRf_24_1, pvRf_24_2, pvRf_28_0, pvRf_28_1, pvRf_28_2, pvRf_28_3, pvRf_33_0, pvRf_33_1, pvRf_36_0, pvRf_36_1, pvRf_39_0, pvRf_39_1, pvRf_39_2, pvRf_39_5, pvRf_39_6, pvRf_39_9, pvRf_39_13, pvRf_39_15, pvRf_39_16, pvRf_39_17, pvRf_39_19, pvRf_39_20, pvRf_39_22, pvRf_39_23, pvRf_39_24, pvRf_39_25, pvRf_39_29, pvRf_39_30, pvE_iastore, pvAI, pvE_iinc, pvIc_s, pvE_goto, pvE_istore_n2, pvE_iload_n2, fX10_7, pvE_imul, pvE_iadd, pvE_iaload, pvE_invokestatic (h0 := eX10_130), pvC1_s, pvC2_s, pvAf_v, pvAf_x, pvPop, pvCs, pvCat, pvPush, aX10_laysLeads_130, pvE_istore_n3, pvE_istore, pvE_iload, pvE_iload_n3, pvE_dup2, pvE_invokevirtual, aX10_laysLeads_154, pvE_if_ge, pvE_ishl, pvE_ior, pvE_return, bX10_laysLeads_0, uX10_laysLeads_0, bX10_laysLeads_2, uX10_laysLeads_2, bX10_laysLeads_22, uX10_laysLeads_22, bX10_laysLeads_24, uX10_laysLeads_24, bX10_laysLeads_31, uX10_laysLeads_31, bX10_laysLeads_56, uX10_laysLeads_56, bX10_laysLeads_124, uX10_laysLeads_124, bX10_laysLeads_125, uX10_laysLeads_125, bX10_laysLeads_133, uX10_laysLeads_133, bX10_laysLeads_139, uX10_laysLeads_139, bX10_laysLeads_145, uX10_laysLeads_145, pvMk_t, pvMk_f, pvMk_n, pvRecv_r, pvUp_nl, pvUp_same, pvUp_ap, pvSt_ap, pvX_c, pvX_ms, pvX_mn, pvE_nil, pvEn_i, pvEn_r, pvEn_l, pvEn_0, pvEn_s, pvRt, pvRv, pvTh, pvKc, pvGo, pvTgt, Int.toNat_natCast, false_and, and_false, true_and, and_true, if_true, if_false, reduceIte, reduceCtorEq, forall_const, false_or, or_false, true_or, or_true, ne_eq, not_true_eq_false, not_false_eq_true, implies_true, false_implies, Nat.reduceAdd, Nat.reduceSub, Nat.reduceMul, Nat.reduceEqDiff, Nat.reduceLT, Nat.reduceLeDiff, Int.reduceAdd, Int.reduceSub, Int.reduceMul, Int.reduceNeg, Int.reduceToNat, Int.reduceLE, Int.reduceLT, Int.reduceEq, Int.reduceNe, and_self]
    (repeat' (first | with_reducible apply And.intro | intro _))
    all_goals first
      | omega
      | exact zero 5184 0 z (by omega) frF_0 (fun i hi => absurd hi (Nat.not_lt_zero _))
  · exact h.elim
