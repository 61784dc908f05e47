/-! the law's own first word, behind the making of its two rows -/
theorem trP_m {lim : Nat → Prop} {z z' : pvM} {t : Nat} {A : Aut} (h : trP lim z t A) (e : z'.1 t = z.1 t) : trP lim z' t A := ⟨h.1, by rw [e]; exact h.2⟩
def C_L_first (lim : Nat → Prop) (sc : Nat × (Nat → Int)) : pvC
  | [.inr (.inr (.inl t)), .inl ini, .inl fin, .inr (.inr (.inl u)), .inl ini2, .inl fin2, .inl df], z, Q => ∃ A B : Aut, (trP lim z t A ∧ (ini = A.2.1 ∧ fin = A.2.2.1) ∧ trP lim z u B ∧ (ini2 = B.2.1 ∧ fin2 = B.2.2.1) ∧ (df = 0 ∨ df = 1)) ∧
      ∀ (own : Int) (z' : pvM), (∀ id, lim id → z'.1 id = z.1 id) → z'.2 = z.2 → fsP A B df own → Q (.inl (some (vI own))) z'
  | _, _, _ => False
def bL_first : Nat → List (Instr × Nat)
  | 0 => [(.iconst 2, 1), (.newarray .int, 2), (.astore 7, 2), (.iconst 2, 1), (.newarray .int, 2), (.astore 8, 2)]
  | 10 => [(.aload_n 0, 1), (.iload_n 1, 1), (.iload_n 2, 1), (.aload_n 3, 1), (.iload 4, 2), (.iload 5, 2), (.iload 6, 2), (.aload 7, 2), (.aload 8, 2), (.iconst 0, 1), (.invokestatic 123, 3), (.ifCond .eq 5, 3), (.iconst 0, 1), (.ireturn, 1)]
  | 33 => [(.iconst 1, 1), (.istore 9, 2)]
  | 36 => [(.iload 9, 2), (.iconst 3, 1), (.if_icmp .ge 180, 3), (.iconst (-1), 1), (.istore 10, 2), (.iconst 0, 1), (.istore 11, 2), (.iconst 0, 1), (.istore 12, 2)]
  | 51 => [(.iload 12, 2), (.iload 9, 2), (.iconst 1, 1), (.if_icmp .ne 8, 3), (.bipush 15, 2), (.goto 6, 3)]
  | 64 => [(.sipush 225, 3)]
  | 67 => [(.if_icmp .ge 131, 3), (.iload 9, 2), (.iconst 1, 1), (.if_icmp .ne 8, 3), (.iload 12, 2), (.goto 8, 3)]
  | 81 => [(.iload 12, 2), (.bipush 15, 2), (.idiv, 1)]
  | 86 => [(.istore 13, 2), (.aload 8, 2), (.iconst 0, 1), (.iload 13, 2), (.iconst 5, 1), (.idiv, 1), (.iastore, 1), (.aload 7, 2), (.iconst 0, 1), (.iload 13, 2), (.iconst 5, 1), (.irem, 1), (.iastore, 1), (.aload 8, 2), (.iconst 1, 1), (.iload 12, 2), (.bipush 15, 2), (.irem, 1), (.iconst 5, 1), (.idiv, 1), (.iastore, 1), (.aload 7, 2), (.iconst 1, 1), (.iload 12, 2), (.iconst 5, 1), (.irem, 1), (.iastore, 1), (.iload 9, 2), (.iconst 1, 1), (.if_icmp .ne 10, 3), (.aload 7, 2), (.iconst 0, 1), (.iaload, 1), (.goto 12, 3)]
  | 136 => [(.aload 7, 2), (.iconst 0, 1), (.iaload, 1), (.aload 7, 2), (.iconst 1, 1), (.iaload, 1), (.iadd, 1)]
  | 145 => [(.istore 14, 2), (.aload_n 0, 1), (.iload_n 1, 1), (.iload_n 2, 1), (.aload_n 3, 1), (.iload 4, 2), (.iload 5, 2), (.iload 6, 2), (.aload 7, 2), (.aload 8, 2), (.iload 9, 2), (.invokestatic 123, 3), (.ifCond .eq 26, 3), (.iload 10, 2), (.ifCond .lt 13, 3), (.iload 14, 2), (.iload 11, 2), (.if_icmp .lt 6, 3), (.goto 11, 3)]
  | 184 => [(.iload 12, 2), (.istore 10, 2), (.iload 14, 2), (.istore 11, 2)]
  | 192 => [(.iinc 12 1, 3), (.goto (-144), 3)]
  | 198 => [(.iload 10, 2), (.ifCond .lt 13, 3), (.sipush 1000, 3), (.iload 9, 2), (.imul, 1), (.iload 10, 2), (.iadd, 1), (.ireturn, 1)]
  | 213 => [(.iinc 9 1, 3), (.goto (-180), 3)]
  | 219 => [(.iconst (-1), 1), (.ireturn, 1)]
  | _ => []
def uL_first : Nat → Option (List Bool)
  | 10 => some [true, true, true, true, true, true, true, true, true, false, false, false, false, false, false]
  | 36 => some [true, true, true, true, true, true, true, true, true, true, false, false, false, false, false]
  | 51 => some [true, true, true, true, true, true, true, true, true, true, true, true, true, false, false]
  | _ => none
def aL_first (lim : Nat → Prop) (sc : Nat × (Nat → Int)) : pvCa
  | 123 => some (10, true, 0, 0, C_L_isOne lim sc)
  | _ => none
theorem bL_first_0 : bL_first 0 = [(.iconst 2, 1), (.newarray .int, 2), (.astore 7, 2), (.iconst 2, 1), (.newarray .int, 2), (.astore 8, 2)] := rfl
theorem uL_first_0 : uL_first 0 = none := rfl
theorem bL_first_10 : bL_first 10 = [(.aload_n 0, 1), (.iload_n 1, 1), (.iload_n 2, 1), (.aload_n 3, 1), (.iload 4, 2), (.iload 5, 2), (.iload 6, 2), (.aload 7, 2), (.aload 8, 2), (.iconst 0, 1), (.invokestatic 123, 3), (.ifCond .eq 5, 3), (.iconst 0, 1), (.ireturn, 1)] := rfl
theorem uL_first_10 : uL_first 10 = some [true, true, true, true, true, true, true, true, true, false, false, false, false, false, false] := rfl
theorem bL_first_33 : bL_first 33 = [(.iconst 1, 1), (.istore 9, 2)] := rfl
theorem uL_first_33 : uL_first 33 = none := rfl
theorem bL_first_36 : bL_first 36 = [(.iload 9, 2), (.iconst 3, 1), (.if_icmp .ge 180, 3), (.iconst (-1), 1), (.istore 10, 2), (.iconst 0, 1), (.istore 11, 2), (.iconst 0, 1), (.istore 12, 2)] := rfl
theorem uL_first_36 : uL_first 36 = some [true, true, true, true, true, true, true, true, true, true, false, false, false, false, false] := rfl
theorem bL_first_51 : bL_first 51 = [(.iload 12, 2), (.iload 9, 2), (.iconst 1, 1), (.if_icmp .ne 8, 3), (.bipush 15, 2), (.goto 6, 3)] := rfl
theorem uL_first_51 : uL_first 51 = some [true, true, true, true, true, true, true, true, true, true, true, true, true, false, false] := rfl
theorem bL_first_64 : bL_first 64 = [(.sipush 225, 3)] := rfl
theorem uL_first_64 : uL_first 64 = none := rfl
theorem bL_first_67 : bL_first 67 = [(.if_icmp .ge 131, 3), (.iload 9, 2), (.iconst 1, 1), (.if_icmp .ne 8, 3), (.iload 12, 2), (.goto 8, 3)] := rfl
theorem uL_first_67 : uL_first 67 = none := rfl
theorem bL_first_81 : bL_first 81 = [(.iload 12, 2), (.bipush 15, 2), (.idiv, 1)] := rfl
theorem uL_first_81 : uL_first 81 = none := rfl
theorem bL_first_86 : bL_first 86 = [(.istore 13, 2), (.aload 8, 2), (.iconst 0, 1), (.iload 13, 2), (.iconst 5, 1), (.idiv, 1), (.iastore, 1), (.aload 7, 2), (.iconst 0, 1), (.iload 13, 2), (.iconst 5, 1), (.irem, 1), (.iastore, 1), (.aload 8, 2), (.iconst 1, 1), (.iload 12, 2), (.bipush 15, 2), (.irem, 1), (.iconst 5, 1), (.idiv, 1), (.iastore, 1), (.aload 7, 2), (.iconst 1, 1), (.iload 12, 2), (.iconst 5, 1), (.irem, 1), (.iastore, 1), (.iload 9, 2), (.iconst 1, 1), (.if_icmp .ne 10, 3), (.aload 7, 2), (.iconst 0, 1), (.iaload, 1), (.goto 12, 3)] := rfl
theorem uL_first_86 : uL_first 86 = none := rfl
theorem bL_first_136 : bL_first 136 = [(.aload 7, 2), (.iconst 0, 1), (.iaload, 1), (.aload 7, 2), (.iconst 1, 1), (.iaload, 1), (.iadd, 1)] := rfl
theorem uL_first_136 : uL_first 136 = none := rfl
theorem bL_first_145 : bL_first 145 = [(.istore 14, 2), (.aload_n 0, 1), (.iload_n 1, 1), (.iload_n 2, 1), (.aload_n 3, 1), (.iload 4, 2), (.iload 5, 2), (.iload 6, 2), (.aload 7, 2), (.aload 8, 2), (.iload 9, 2), (.invokestatic 123, 3), (.ifCond .eq 26, 3), (.iload 10, 2), (.ifCond .lt 13, 3), (.iload 14, 2), (.iload 11, 2), (.if_icmp .lt 6, 3), (.goto 11, 3)] := rfl
theorem uL_first_145 : uL_first 145 = none := rfl
theorem bL_first_184 : bL_first 184 = [(.iload 12, 2), (.istore 10, 2), (.iload 14, 2), (.istore 11, 2)] := rfl
theorem uL_first_184 : uL_first 184 = none := rfl
theorem bL_first_192 : bL_first 192 = [(.iinc 12 1, 3), (.goto (-144), 3)] := rfl
theorem uL_first_192 : uL_first 192 = none := rfl
theorem bL_first_198 : bL_first 198 = [(.iload 10, 2), (.ifCond .lt 13, 3), (.sipush 1000, 3), (.iload 9, 2), (.imul, 1), (.iload 10, 2), (.iadd, 1), (.ireturn, 1)] := rfl
theorem uL_first_198 : uL_first 198 = none := rfl
theorem bL_first_213 : bL_first 213 = [(.iinc 9 1, 3), (.goto (-180), 3)] := rfl
theorem uL_first_213 : uL_first 213 = none := rfl
theorem bL_first_219 : bL_first 219 = [(.iconst (-1), 1), (.ireturn, 1)] := rfl
theorem uL_first_219 : uL_first 219 = none := rfl
theorem aL_first_123 {lim : Nat → Prop} {sc : Nat × (Nat → Int)} : aL_first lim sc 123 = some (10, true, 0, 0, C_L_isOne lim sc) := rfl
def mL_first : Room := { frames := 5, cells := 3, slots := 18, locals := 129 }
/-- what is best so far among the first k words of ev events -/
def beP (A B : Aut) (df : Int) (ev k : Nat) (best least : Int) : Prop := (best = -1 ∧ ∀ k', k' < k → ¬ isP A B df (wkD ev k') (wkL ev k') ev) ∨
  (∃ b : Nat, best = b ∧ b < k ∧ least = wkS ev b ∧ isP A B df (wkD ev b) (wkL ev b) ev ∧ ∀ k', k' < k → isP A B df (wkD ev k') (wkL ev k') ev → wkS ev b < wkS ev k' ∨ (wkS ev b = wkS ev k' ∧ b ≤ k'))
theorem wkS_r {ev k : Nat} : 0 ≤ wkS ev k ∧ wkS ev k ≤ 8 := by
  unfold wkS wkD
  split <;> simp <;> omega
theorem beP_keep {A B : Aut} {df : Int} {ev k : Nat} {best least : Int} (h : beP A B df ev k best least) (hn : ¬ isP A B df (wkD ev k) (wkL ev k) ev ∨ (0 ≤ best ∧ least ≤ wkS ev k)) : beP A B df ev (k + 1) best least := by
  rcases h with ⟨h1, h2⟩ | ⟨b, h1, h2, h3, h4, h5⟩
  · left
    refine ⟨h1, fun k' hk' => ?_⟩
    by_cases e : k' = k
    · subst e
      rcases hn with hn | hn
      · exact hn
      · omega
    · exact h2 k' (by omega)
  · right
    refine ⟨b, h1, by omega, h3, h4, fun k' hk' hp => ?_⟩
    by_cases e : k' = k
    · subst e
      rcases hn with hn | hn
      · exact absurd hp hn
      · omega
    · exact h5 k' (by omega) hp
theorem beP_new {A B : Aut} {df : Int} {ev k : Nat} {best least : Int} (h : beP A B df ev k best least) (hp : isP A B df (wkD ev k) (wkL ev k) ev) (hn : best < 0 ∨ wkS ev k < least) : beP A B df ev (k + 1) k (wkS ev k) := by
  right
  refine ⟨k, rfl, by omega, rfl, hp, fun k' hk' hp' => ?_⟩
  by_cases e : k' = k
  · subst e
    exact Or.inr ⟨rfl, Nat.le_refl _⟩
  · rcases h with ⟨h1, h2⟩ | ⟨b, h1, h2, h3, h4, h5⟩
    · exact absurd hp' (h2 k' (by omega))
    · have := h5 k' (by omega) hp'
      omega
theorem beP_end {A B : Aut} {df : Int} {ev : Nat} {best least : Int} (h : beP A B df ev (wkC ev) best least) : (best < 0 → noP A B df ev) ∧ (0 ≤ best → ∃ b : Nat, best = b ∧ bsP A B df ev b) := by
  rcases h with ⟨h1, h2⟩ | ⟨b, h1, h2, h3, h4, h5⟩
  · exact ⟨fun _ => h2, fun h => by omega⟩
  · exact ⟨fun h => by omega, fun _ => ⟨b, h1, h2, h4, h5⟩⟩
/-- what stays of the memory: all but the two rows, which hold a word's numbers -/
def rwP (dl lt : Nat) (z z' : pvM) : Prop := frF [dl, lt] [] z z' ∧ WdF 2 (z'.1 dl) (z'.1 lt)
set_option maxRecDepth 100000 in
set_option maxHeartbeats 4000000 in
theorem okL_first2 {lim : Nat → Prop} {sc : Nat × (Nat → Int)} {Q : pvO → pvM → Prop} {SW : pvJ} (hc : pvCloG lim sc fL (aL_first lim sc) kL 3 (pvRtG 3 (some .int) Q) bL_first uL_first SW)
    {t u dl lt : Nat} {df : Int} {z : pvM} {A B : Aut} (htA : trP lim z t A) (htB : trP lim z u B) (hdf : df = 0 ∨ df = 1) (hdl : lim dl ∧ dl ≠ 60 ∧ pvAI dl = 2) (hlt : lim lt ∧ lt ≠ 60 ∧ pvAI lt = 2) (hne : dl ≠ lt ∧ t ≠ dl ∧ t ≠ lt ∧ u ≠ dl ∧ u ≠ lt) (hz0 : rwP dl lt z z)
    (hQ : ∀ (own : Int) (z' : pvM), rwP dl lt z z' → fsP A B df own → Q (.inl (some (vI own))) z') :
    SW 10 [some (vR t), some (vI A.2.1), some (vI A.2.2.1), some (vR u), some (vI B.2.1), some (vI B.2.2.1), some (vI df), some (vR dl), some (vR lt), none, none, none, none, none, none] [] z 2 := by
  have hrA : ∀ z', rwP dl lt z z' → trP lim z' t A := fun z' h => trP_m htA (h.1.1 t (by simp [hne]))
  have hrB : ∀ z', rwP dl lt z z' → trP lim z' u B := fun z' h => trP_m htB (h.1.1 u (by simp [hne]))
  have hwr : ∀ z', rwP dl lt z z' → wrP lim z' dl lt 2 := fun z' h => ⟨⟨hdl.1, hdl.2.1, hlt.1, hlt.2.1, by omega, by omega⟩, h.2⟩
  have h51 : ∀ (ev : Nat), (ev = 1 ∨ ev = 2) → ¬ z0P A B df →
      (∀ z', rwP dl lt z z' → noP A B df ev → SW 36 [some (vR t), some (vI A.2.1), some (vI A.2.2.1), some (vR u), some (vI B.2.1), some (vI B.2.2.1), some (vI df), some (vR dl), some (vR lt), some (vI ((ev : Int) + 1)), none, none, none, none, none] [] z' 2) →
      (∀ (z' : pvM) (b : Nat), rwP dl lt z z' → bsP A B df ev b → Q (.inl (some (vI (1000 * (ev : Int) + b)))) z') →
      ∀ (m k : Nat), k + m = wkC ev → ∀ (z' : pvM) (best least : Int), rwP dl lt z z' → beP A B df ev k best least → (-1 ≤ best ∧ best ≤ 224) → (0 ≤ least ∧ least ≤ 8) → SW 51 [some (vR t), some (vI A.2.1), some (vI A.2.2.1), some (vR u), some (vI B.2.1), some (vI B.2.2.1), some (vI df), some (vR dl), some (vR lt), some (vI (ev : Int)), some (vI best), some (vI least), some (vI (k : Int)), none, none] [] z' 2 := by
    intro ev hev hnz hno hbs m
    induction m with
    | zero =>
      intro k hk z' best least h1 h2 h3 h4
      obtain rfl : k = wkC ev := by omega
      obtain ⟨h5, h6⟩ := beP_end h2
      have q1 := fun h => hno z' h1 (h5 h)
      have q2 : 0 ≤ best → Q (.inl (some (vI (1000 * (ev : Int) + best)))) z' := fun h => by
        obtain ⟨b, e, h7⟩ := h6 h
        rw [e]
        exact hbs z' b h1 h7
      refine hc 20 _ _ _ _ _ fun _ _ _ => ?_
      clear hc hno hbs
      simp only [pvStG]
      simp only [C_L_isOne, pvE_iconst, pvE_astore, pvS1, List.length_cons, List.length_nil, pvClr_i, pvClr_r, pvClr_l, pvClr_d, pvClr_f, pvClr_n, pvE_aload_n0, pvLA_s, pvLd, pvE_iload_n1, pvLI_s, pvE_iload_n2, pvE_aload_n3, pvE_iload, pvE_aload, pvE_invokestatic (Ex := fun _ => none) (h0 := rfl), pvC1_s, pvC2_s, pvAf_v, pvAf_x, pvPop, pvCs, pvCat, pvPush, aL_first_123, pvE_if_eq, pvE_ireturn, pvE_istore, pvE_icmp_ge, pvE_icmp_ne, pvE_bipush, pvE_goto, pvE_sipush, pvE_idiv, pvE_iastore, pvE_irem, pvE_iaload, pvE_iadd, pvE_if_lt, pvE_icmp_lt, pvE_iinc, pvIc_s, pvE_imul, bL_first_0, uL_first_0, bL_first_10, uL_first_10, bL_first_33, uL_first_33, bL_first_36, uL_first_36, bL_first_51, uL_first_51, bL_first_64, uL_first_64, bL_first_67, uL_first_67, bL_first_81, uL_first_81, bL_first_86, uL_first_86, bL_first_136, uL_first_136, bL_first_145, uL_first_145, bL_first_184, uL_first_184, bL_first_192, uL_first_192, bL_first_198, uL_first_198, bL_first_213, uL_first_213, bL_first_219, uL_first_219, pvMk_t, pvMk_f, pvMk_n, pvRtG, pvRecv_r, pvUp_nl, pvUp_same, pvUp_ap, pvSt_ap, pvX_c, pvX_ms, pvX_mn, pvE_nil, pvEn_i, pvEn_r, pvEn_l, pvEn_0, pvEn_s, pvRt, pvRv, pvTh, pvKc, pvGo, pvTgt, Int.toNat_natCast, false_and, and_false, true_and, and_true, if_true, if_false, reduceIte, reduceCtorEq, forall_const, false_or, or_false, true_or, or_true, ne_eq, not_true_eq_false, not_false_eq_true, implies_true, false_implies, Nat.reduceAdd, Nat.reduceSub, Nat.reduceMul, Nat.reduceEqDiff, Nat.reduceLT, Nat.reduceLeDiff, Int.reduceAdd, Int.reduceSub, Int.reduceMul, Int.reduceNeg, Int.reduceToNat, Int.reduceLE, Int.reduceLT, Int.reduceEq, Int.reduceNe, and_self]
      rcases hev with rfl | rfl
      · simp only [show wkC 1 = 15 from rfl] at *
        (repeat' first | with_reducible apply And.intro | with_reducible intro _)
        all_goals first
          | omega
          | assumption
          | (exfalso; omega)
          | exact q1 (by omega)
          | exact q2 (by omega)
          | trivial
      · simp only [show wkC 2 = 225 from rfl] at *
        (repeat' first | with_reducible apply And.intro | with_reducible intro _)
        all_goals first
          | omega
          | assumption
          | (exfalso; omega)
          | exact q1 (by omega)
          | exact q2 (by omega)
          | trivial
    | succ m ih =>
      intro k hk z' best least h1 h2 h3 h4
      have hkc : k < wkC ev := by omega
      have hws := wkS_r (ev := ev) (k := k)
      have hz2 : ∀ z2 : pvM, (∀ id, id ≠ dl → id ≠ lt → z2.1 id = z'.1 id) → z2.2 = z'.2 → (∀ j, j < 2 → z2.1 dl j = wkD ev k j ∧ z2.1 lt j = wkL ev k j) → rwP dl lt z z2 ∧ (isP A B df (z2.1 dl) (z2.1 lt) ev ↔ isP A B df (wkD ev k) (wkL ev k) ev) := by
        intro z2 e1 e2 e3
        have hw := wk_w hev hkc
        refine ⟨⟨⟨fun id hid => ?_, fun id _ => ?_, ?_⟩, ⟨by decide, fun j hj => ?_⟩⟩, is_e ev fun j hj => e3 j (by omega)⟩
        · rw [List.mem_cons, List.mem_cons] at hid
          rw [e1 id (fun h => hid (Or.inl h)) (fun h => hid (Or.inr (Or.inl h)))]
          exact h1.1.1 id (by rw [List.mem_cons, List.mem_cons]; exact hid)
        · rw [e2]; exact h1.1.2.1 id List.not_mem_nil
        · rw [e2]; exact h1.1.2.2
        · rw [(e3 j (by omega)).1, (e3 j (by omega)).2]
          unfold wkD wkL
          unfold wkC at hkc
          rcases hev with rfl | rfl
          · simp only [if_true] at *
            split <;> omega
          · simp only [show ¬ (2 : Nat) = 1 by decide, if_false] at *
            split <;> omega
      have hd60 : (dl = 60) = False := eq_false hdl.2.1
      have hl60 : (lt = 60) = False := eq_false hlt.2.1
      have hdn : (dl = lt) = False := eq_false hne.1
      have hnd : (lt = dl) = False := eq_false fun h => hne.1 h.symm
      refine hc 20 _ _ _ _ _ fun _ _ _ => ?_
      have fin : ∀ (z2 : pvM) (sum : Int), rwP dl lt z z2 → (isP A B df (z2.1 dl) (z2.1 lt) ev ↔ isP A B df (wkD ev k) (wkL ev k) ev) → sum = wkS ev k →
          (isP A B df (z2.1 dl) (z2.1 lt) ev → (best < 0 ∨ sum < least) → SW 51 [some (vR t), some (vI A.2.1), some (vI A.2.2.1), some (vR u), some (vI B.2.1), some (vI B.2.2.1), some (vI df), some (vR dl), some (vR lt), some (vI (ev : Int)), some (vI (k : Int)), some (vI sum), some (vI ((k : Int) + 1)), none, none] [] z2 2) ∧
          ((¬ isP A B df (z2.1 dl) (z2.1 lt) ev ∨ (¬ best < 0 ∧ ¬ sum < least)) → SW 51 [some (vR t), some (vI A.2.1), some (vI A.2.2.1), some (vR u), some (vI B.2.1), some (vI B.2.2.1), some (vI df), some (vR dl), some (vR lt), some (vI (ev : Int)), some (vI best), some (vI least), some (vI ((k : Int) + 1)), none, none] [] z2 2) := by
        rintro z2 sum r1 r2 rfl
        have hk225 : k < 225 := by
          unfold wkC at hkc
          split at hkc <;> omega
        refine ⟨fun hp hb => ?_, fun hn => ?_⟩
        · exact ih (k + 1) (by omega) z2 _ _ r1 (beP_new h2 (r2.mp hp) hb) (by omega) hws
        · exact ih (k + 1) (by omega) z2 _ _ r1 (beP_keep h2 (by rcases hn with hn | hn; exact Or.inl fun h => hn (r2.mpr h); exact Or.inr (by omega))) h3 h4
      clear hc hno hbs ih
      simp only [pvStG]
      simp only [hd60, hl60, hdn, hnd, pvE_iconst, pvE_astore, pvS1, List.length_cons, List.length_nil, pvClr_i, pvClr_r, pvClr_l, pvClr_d, pvClr_f, pvClr_n, pvE_aload_n0, pvLA_s, pvLd, pvE_iload_n1, pvLI_s, pvE_iload_n2, pvE_aload_n3, pvE_iload, pvE_aload, pvE_invokestatic (Ex := fun _ => none) (h0 := rfl), pvC1_s, pvC2_s, pvAf_v, pvAf_x, pvPop, pvCs, pvCat, pvPush, aL_first_123, pvE_if_eq, pvE_ireturn, pvE_istore, pvE_icmp_ge, pvE_icmp_ne, pvE_bipush, pvE_goto, pvE_sipush, pvE_idiv, pvE_iastore, pvE_irem, pvE_iaload, pvE_iadd, pvE_if_lt, pvE_icmp_lt, pvE_iinc, pvIc_s, pvE_imul, bL_first_0, uL_first_0, bL_first_10, uL_first_10, bL_first_33, uL_first_33, bL_first_36, uL_first_36, bL_first_51, uL_first_51, bL_first_64, uL_first_64, bL_first_67, uL_first_67, bL_first_81, uL_first_81, bL_first_86, uL_first_86, bL_first_136, uL_first_136, bL_first_145, uL_first_145, bL_first_184, uL_first_184, bL_first_192, uL_first_192, bL_first_198, uL_first_198, bL_first_213, uL_first_213, bL_first_219, uL_first_219, pvMk_t, pvMk_f, pvMk_n, pvRtG, pvRecv_r, pvUp_nl, pvUp_same, pvUp_ap, pvSt_ap, pvX_c, pvX_ms, pvX_mn, pvE_nil, pvEn_i, pvEn_r, pvEn_l, pvEn_0, pvEn_s, pvRt, pvRv, pvTh, pvKc, pvGo, pvTgt, Int.toNat_natCast, false_and, and_false, true_and, and_true, if_true, if_false, reduceIte, reduceCtorEq, forall_const, false_or, or_false, true_or, or_true, ne_eq, not_true_eq_false, not_false_eq_true, implies_true, false_implies, Nat.reduceAdd, Nat.reduceSub, Nat.reduceMul, Nat.reduceEqDiff, Nat.reduceLT, Nat.reduceLeDiff, Int.reduceAdd, Int.reduceSub, Int.reduceMul, Int.reduceNeg, Int.reduceToNat, Int.reduceLE, Int.reduceLT, Int.reduceEq, Int.reduceNe, and_self]
      rcases hev with rfl | rfl
      · simp only [show wkC 1 = 15 from rfl, Int.cast_ofNat_Int, not_true_eq_false, false_implies, true_and, true_implies, and_true] at *
        have hh := hz2 (pvUp (pvUp (pvUp (pvUp z'.1 lt 0 ((k : Int) / 5)) dl 0 ((k : Int) % 5)) lt 1 ((k : Int) % 15 / 5)) dl 1 ((k : Int) % 5), z'.2) (fun id a b => by show pvUp _ dl 1 _ id = _; rw [pvUp_ne a, pvUp_ne b, pvUp_ne a, pvUp_ne b]) rfl (fun j hj => by
          rcases (show j = 0 ∨ j = 1 by omega) with rfl | rfl <;> simp only [pvUp_ap, hdn, hnd, false_and, if_false, true_and, wkD, wkL] <;> simp <;> omega)
        have hsum : (k : Int) % 5 = wkS 1 k := by
          unfold wkS wkD
          simp
          try omega
        (repeat' first | with_reducible apply And.intro | with_reducible intro _)
        all_goals first
          | omega
          | (exfalso; omega)
          | exact hlt.1
          | exact hdl.1
          | skip
        generalize ((pvUp (pvUp (pvUp (pvUp z'.1 lt 0 ((k : Int) / 5)) dl 0 ((k : Int) % 5)) lt 1 ((k : Int) % 15 / 5)) dl 1 ((k : Int) % 5), z'.2) : pvM) = z2 at hh ⊢
        obtain ⟨r1, r2⟩ := hh
        obtain ⟨q1, q2⟩ := fin z2 _ r1 r2 hsum
        simp only [C_L_isOne, pvE_iconst, pvE_astore, pvS1, List.length_cons, List.length_nil, pvClr_i, pvClr_r, pvClr_l, pvClr_d, pvClr_f, pvClr_n, pvE_aload_n0, pvLA_s, pvLd, pvE_iload_n1, pvLI_s, pvE_iload_n2, pvE_aload_n3, pvE_iload, pvE_aload, pvE_invokestatic (Ex := fun _ => none) (h0 := rfl), pvC1_s, pvC2_s, pvAf_v, pvAf_x, pvPop, pvCs, pvCat, pvPush, aL_first_123, pvE_if_eq, pvE_ireturn, pvE_istore, pvE_icmp_ge, pvE_icmp_ne, pvE_bipush, pvE_goto, pvE_sipush, pvE_idiv, pvE_iastore, pvE_irem, pvE_iaload, pvE_iadd, pvE_if_lt, pvE_icmp_lt, pvE_iinc, pvIc_s, pvE_imul, bL_first_0, uL_first_0, bL_first_10, uL_first_10, bL_first_33, uL_first_33, bL_first_36, uL_first_36, bL_first_51, uL_first_51, bL_first_64, uL_first_64, bL_first_67, uL_first_67, bL_first_81, uL_first_81, bL_first_86, uL_first_86, bL_first_136, uL_first_136, bL_first_145, uL_first_145, bL_first_184, uL_first_184, bL_first_192, uL_first_192, bL_first_198, uL_first_198, bL_first_213, uL_first_213, bL_first_219, uL_first_219, pvMk_t, pvMk_f, pvMk_n, pvRtG, pvRecv_r, pvUp_nl, pvUp_same, pvUp_ap, pvSt_ap, pvX_c, pvX_ms, pvX_mn, pvE_nil, pvEn_i, pvEn_r, pvEn_l, pvEn_0, pvEn_s, pvRt, pvRv, pvTh, pvKc, pvGo, pvTgt, Int.toNat_natCast, false_and, and_false, true_and, and_true, if_true, if_false, reduceIte, reduceCtorEq, forall_const, false_or, or_false, true_or, or_true, ne_eq, not_true_eq_false, not_false_eq_true, implies_true, false_implies, Nat.reduceAdd, Nat.reduceSub, Nat.reduceMul, Nat.reduceEqDiff, Nat.reduceLT, Nat.reduceLeDiff, Int.reduceAdd, Int.reduceSub, Int.reduceMul, Int.reduceNeg, Int.reduceToNat, Int.reduceLE, Int.reduceLT, Int.reduceEq, Int.reduceNe, and_self]
        refine ⟨A, B, ⟨hrA z2 r1, ⟨rfl, rfl⟩, hrB z2 r1, ⟨rfl, rfl⟩, hdf, 2, hwr z2 r1, by decide⟩, fun hp => ?_, fun hp => ?_⟩
        · (repeat' first | with_reducible apply And.intro | with_reducible intro _)
          all_goals first
            | omega
            | exact q1 hp (Or.inl (by omega))
            | exact q1 hp (Or.inr (by omega))
            | exact q2 (Or.inr ⟨by omega, by omega⟩)
        · (repeat' first | with_reducible apply And.intro | with_reducible intro _)
          all_goals first
            | omega
            | exact q2 (Or.inl hp)
      · simp only [show wkC 2 = 225 from rfl, Int.cast_ofNat_Int, not_true_eq_false, false_implies, true_and, true_implies, and_true, show ¬ ((2 : Nat) : Int) = 1 by decide, not_false_eq_true] at *
        have hh := hz2 (pvUp (pvUp (pvUp (pvUp z'.1 lt 0 ((k : Int) / 15 / 5)) dl 0 ((k : Int) / 15 % 5)) lt 1 ((k : Int) % 15 / 5)) dl 1 ((k : Int) % 5), z'.2) (fun id a b => by show pvUp _ dl 1 _ id = _; rw [pvUp_ne a, pvUp_ne b, pvUp_ne a, pvUp_ne b]) rfl (fun j hj => by
          rcases (show j = 0 ∨ j = 1 by omega) with rfl | rfl <;> simp only [pvUp_ap, hdn, hnd, false_and, if_false, true_and, wkD, wkL] <;> simp <;> omega)
        have hsum : (k : Int) / 15 % 5 + (k : Int) % 5 = wkS 2 k := by
          unfold wkS wkD
          simp
          try omega
        (repeat' first | with_reducible apply And.intro | with_reducible intro _)
        all_goals first
          | omega
          | (exfalso; omega)
          | exact hlt.1
          | exact hdl.1
          | skip
        generalize ((pvUp (pvUp (pvUp (pvUp z'.1 lt 0 ((k : Int) / 15 / 5)) dl 0 ((k : Int) / 15 % 5)) lt 1 ((k : Int) % 15 / 5)) dl 1 ((k : Int) % 5), z'.2) : pvM) = z2 at hh ⊢
        obtain ⟨r1, r2⟩ := hh
        obtain ⟨q1, q2⟩ := fin z2 _ r1 r2 hsum
        simp only [C_L_isOne, pvE_iconst, pvE_astore, pvS1, List.length_cons, List.length_nil, pvClr_i, pvClr_r, pvClr_l, pvClr_d, pvClr_f, pvClr_n, pvE_aload_n0, pvLA_s, pvLd, pvE_iload_n1, pvLI_s, pvE_iload_n2, pvE_aload_n3, pvE_iload, pvE_aload, pvE_invokestatic (Ex := fun _ => none) (h0 := rfl), pvC1_s, pvC2_s, pvAf_v, pvAf_x, pvPop, pvCs, pvCat, pvPush, aL_first_123, pvE_if_eq, pvE_ireturn, pvE_istore, pvE_icmp_ge, pvE_icmp_ne, pvE_bipush, pvE_goto, pvE_sipush, pvE_idiv, pvE_iastore, pvE_irem, pvE_iaload, pvE_iadd, pvE_if_lt, pvE_icmp_lt, pvE_iinc, pvIc_s, pvE_imul, bL_first_0, uL_first_0, bL_first_10, uL_first_10, bL_first_33, uL_first_33, bL_first_36, uL_first_36, bL_first_51, uL_first_51, bL_first_64, uL_first_64, bL_first_67, uL_first_67, bL_first_81, uL_first_81, bL_first_86, uL_first_86, bL_first_136, uL_first_136, bL_first_145, uL_first_145, bL_first_184, uL_first_184, bL_first_192, uL_first_192, bL_first_198, uL_first_198, bL_first_213, uL_first_213, bL_first_219, uL_first_219, pvMk_t, pvMk_f, pvMk_n, pvRtG, pvRecv_r, pvUp_nl, pvUp_same, pvUp_ap, pvSt_ap, pvX_c, pvX_ms, pvX_mn, pvE_nil, pvEn_i, pvEn_r, pvEn_l, pvEn_0, pvEn_s, pvRt, pvRv, pvTh, pvKc, pvGo, pvTgt, Int.toNat_natCast, false_and, and_false, true_and, and_true, if_true, if_false, reduceIte, reduceCtorEq, forall_const, false_or, or_false, true_or, or_true, ne_eq, not_true_eq_false, not_false_eq_true, implies_true, false_implies, Nat.reduceAdd, Nat.reduceSub, Nat.reduceMul, Nat.reduceEqDiff, Nat.reduceLT, Nat.reduceLeDiff, Int.reduceAdd, Int.reduceSub, Int.reduceMul, Int.reduceNeg, Int.reduceToNat, Int.reduceLE, Int.reduceLT, Int.reduceEq, Int.reduceNe, and_self]
        refine ⟨A, B, ⟨hrA z2 r1, ⟨rfl, rfl⟩, hrB z2 r1, ⟨rfl, rfl⟩, hdf, 2, hwr z2 r1, by decide⟩, fun hp => ?_, fun hp => ?_⟩
        · (repeat' first | with_reducible apply And.intro | with_reducible intro _)
          all_goals first
            | omega
            | exact q1 hp (Or.inl (by omega))
            | exact q1 hp (Or.inr (by omega))
            | exact q2 (Or.inr ⟨by omega, by omega⟩)
        · (repeat' first | with_reducible apply And.intro | with_reducible intro _)
          all_goals first
            | omega
            | exact q2 (Or.inl hp)
  have h36 : ∀ (m ev : Nat), ev + m = 3 → 1 ≤ ev → ¬ z0P A B df → (∀ e, 1 ≤ e → e < ev → noP A B df e) → ∀ z', rwP dl lt z z' → SW 36 [some (vR t), some (vI A.2.1), some (vI A.2.2.1), some (vR u), some (vI B.2.1), some (vI B.2.2.1), some (vI df), some (vR dl), some (vR lt), some (vI (ev : Int)), none, none, none, none, none] [] z' 2 := by
    intro m
    induction m with
    | zero =>
      intro ev hev h1 hnz hno z' hz'
      obtain rfl : ev = 3 := by omega
      have q := hQ (-1) z' hz' (Or.inr (Or.inr (Or.inr ⟨hnz, hno 1 (by decide) (by decide), hno 2 (by decide) (by decide), rfl⟩)))
      refine hc 20 _ _ _ _ _ fun _ _ _ => ?_
      clear hc hQ h51
      simp only [pvStG]
      simp only [pvE_iconst, pvE_astore, pvS1, List.length_cons, List.length_nil, pvClr_i, pvClr_r, pvClr_l, pvClr_d, pvClr_f, pvClr_n, pvE_aload_n0, pvLA_s, pvLd, pvE_iload_n1, pvLI_s, pvE_iload_n2, pvE_aload_n3, pvE_iload, pvE_aload, pvE_invokestatic (Ex := fun _ => none) (h0 := rfl), pvC1_s, pvC2_s, pvAf_v, pvAf_x, pvPop, pvCs, pvCat, pvPush, aL_first_123, pvE_if_eq, pvE_ireturn, pvE_istore, pvE_icmp_ge, pvE_icmp_ne, pvE_bipush, pvE_goto, pvE_sipush, pvE_idiv, pvE_iastore, pvE_irem, pvE_iaload, pvE_iadd, pvE_if_lt, pvE_icmp_lt, pvE_iinc, pvIc_s, pvE_imul, bL_first_0, uL_first_0, bL_first_10, uL_first_10, bL_first_33, uL_first_33, bL_first_36, uL_first_36, bL_first_51, uL_first_51, bL_first_64, uL_first_64, bL_first_67, uL_first_67, bL_first_81, uL_first_81, bL_first_86, uL_first_86, bL_first_136, uL_first_136, bL_first_145, uL_first_145, bL_first_184, uL_first_184, bL_first_192, uL_first_192, bL_first_198, uL_first_198, bL_first_213, uL_first_213, bL_first_219, uL_first_219, pvMk_t, pvMk_f, pvMk_n, pvRtG, pvRecv_r, pvUp_nl, pvUp_same, pvUp_ap, pvSt_ap, pvX_c, pvX_ms, pvX_mn, pvE_nil, pvEn_i, pvEn_r, pvEn_l, pvEn_0, pvEn_s, pvRt, pvRv, pvTh, pvKc, pvGo, pvTgt, Int.toNat_natCast, false_and, and_false, true_and, and_true, if_true, if_false, reduceIte, reduceCtorEq, forall_const, false_or, or_false, true_or, or_true, ne_eq, not_true_eq_false, not_false_eq_true, implies_true, false_implies, Nat.reduceAdd, Nat.reduceSub, Nat.reduceMul, Nat.reduceEqDiff, Nat.reduceLT, Nat.reduceLeDiff, Int.reduceAdd, Int.reduceSub, Int.reduceMul, Int.reduceNeg, Int.reduceToNat, Int.reduceLE, Int.reduceLT, Int.reduceEq, Int.reduceNe, and_self]
      (repeat' first | with_reducible apply And.intro | with_reducible intro _)
      all_goals first
        | omega
        | exact q
        | (exfalso; omega)
        | trivial
    | succ m ih =>
      intro ev hev h1 hnz hno z' hz'
      have q := h51 ev (by omega) hnz (fun z2 r2 hn => ih (ev + 1) (by omega) (by omega) hnz (fun e e1 e2 => by
          by_cases h : e = ev
          · subst h; exact hn
          · exact hno e e1 (by omega)) z2 r2) (fun z2 b r2 hb => by
          rcases (show ev = 1 ∨ ev = 2 by omega) with rfl | rfl
          · exact hQ _ z2 r2 (Or.inr (Or.inl ⟨hnz, b, hb, rfl⟩))
          · exact hQ _ z2 r2 (Or.inr (Or.inr (Or.inl ⟨hnz, hno 1 (by decide) (by decide), b, hb, rfl⟩)))) (wkC ev) 0 (Nat.zero_add _) z' (-1) 0 hz' (Or.inl ⟨rfl, fun k' hk' => absurd hk' (Nat.not_lt_zero _)⟩) (by decide) (by decide)
      refine hc 20 _ _ _ _ _ fun _ _ _ => ?_
      clear hc hQ h51 ih
      simp only [pvStG]
      simp only [pvE_iconst, pvE_astore, pvS1, List.length_cons, List.length_nil, pvClr_i, pvClr_r, pvClr_l, pvClr_d, pvClr_f, pvClr_n, pvE_aload_n0, pvLA_s, pvLd, pvE_iload_n1, pvLI_s, pvE_iload_n2, pvE_aload_n3, pvE_iload, pvE_aload, pvE_invokestatic (Ex := fun _ => none) (h0 := rfl), pvC1_s, pvC2_s, pvAf_v, pvAf_x, pvPop, pvCs, pvCat, pvPush, aL_first_123, pvE_if_eq, pvE_ireturn, pvE_istore, pvE_icmp_ge, pvE_icmp_ne, pvE_bipush, pvE_goto, pvE_sipush, pvE_idiv, pvE_iastore, pvE_irem, pvE_iaload, pvE_iadd, pvE_if_lt, pvE_icmp_lt, pvE_iinc, pvIc_s, pvE_imul, bL_first_0, uL_first_0, bL_first_10, uL_first_10, bL_first_33, uL_first_33, bL_first_36, uL_first_36, bL_first_51, uL_first_51, bL_first_64, uL_first_64, bL_first_67, uL_first_67, bL_first_81, uL_first_81, bL_first_86, uL_first_86, bL_first_136, uL_first_136, bL_first_145, uL_first_145, bL_first_184, uL_first_184, bL_first_192, uL_first_192, bL_first_198, uL_first_198, bL_first_213, uL_first_213, bL_first_219, uL_first_219, pvMk_t, pvMk_f, pvMk_n, pvRtG, pvRecv_r, pvUp_nl, pvUp_same, pvUp_ap, pvSt_ap, pvX_c, pvX_ms, pvX_mn, pvE_nil, pvEn_i, pvEn_r, pvEn_l, pvEn_0, pvEn_s, pvRt, pvRv, pvTh, pvKc, pvGo, pvTgt, Int.toNat_natCast, false_and, and_false, true_and, and_true, if_true, if_false, reduceIte, reduceCtorEq, forall_const, false_or, or_false, true_or, or_true, ne_eq, not_true_eq_false, not_false_eq_true, implies_true, false_implies, Nat.reduceAdd, Nat.reduceSub, Nat.reduceMul, Nat.reduceEqDiff, Nat.reduceLT, Nat.reduceLeDiff, Int.reduceAdd, Int.reduceSub, Int.reduceMul, Int.reduceNeg, Int.reduceToNat, Int.reduceLE, Int.reduceLT, Int.reduceEq, Int.reduceNe, and_self]
      (repeat' first | with_reducible apply And.intro | with_reducible intro _)
      all_goals first
        | omega
        | exact q
        | (exfalso; omega)
        | trivial
  have q1 : ¬ z0P A B df → SW 36 [some (vR t), some (vI A.2.1), some (vI A.2.2.1), some (vR u), some (vI B.2.1), some (vI B.2.2.1), some (vI df), some (vR dl), some (vR lt), some (vI 1), none, none, none, none, none] [] z 2 := fun hnz => h36 2 1 rfl (by decide) hnz (fun e e1 e2 => by omega) z hz0
  have q2 : z0P A B df → Q (.inl (some (vI 0))) z := fun h => hQ 0 z hz0 (Or.inl ⟨rfl, h⟩)
  have e0 : isP A B df (z.1 dl) (z.1 lt) 0 ↔ z0P A B df := is_e 0 fun j hj => absurd hj (Nat.not_lt_zero _)
  refine hc 20 _ _ _ _ _ fun _ _ _ => ?_
  clear hc hQ h51 h36
  simp only [pvStG]
  simp only [C_L_isOne, pvE_iconst, pvE_astore, pvS1, List.length_cons, List.length_nil, pvClr_i, pvClr_r, pvClr_l, pvClr_d, pvClr_f, pvClr_n, pvE_aload_n0, pvLA_s, pvLd, pvE_iload_n1, pvLI_s, pvE_iload_n2, pvE_aload_n3, pvE_iload, pvE_aload, pvE_invokestatic (Ex := fun _ => none) (h0 := rfl), pvC1_s, pvC2_s, pvAf_v, pvAf_x, pvPop, pvCs, pvCat, pvPush, aL_first_123, pvE_if_eq, pvE_ireturn, pvE_istore, pvE_icmp_ge, pvE_icmp_ne, pvE_bipush, pvE_goto, pvE_sipush, pvE_idiv, pvE_iastore, pvE_irem, pvE_iaload, pvE_iadd, pvE_if_lt, pvE_icmp_lt, pvE_iinc, pvIc_s, pvE_imul, bL_first_0, uL_first_0, bL_first_10, uL_first_10, bL_first_33, uL_first_33, bL_first_36, uL_first_36, bL_first_51, uL_first_51, bL_first_64, uL_first_64, bL_first_67, uL_first_67, bL_first_81, uL_first_81, bL_first_86, uL_first_86, bL_first_136, uL_first_136, bL_first_145, uL_first_145, bL_first_184, uL_first_184, bL_first_192, uL_first_192, bL_first_198, uL_first_198, bL_first_213, uL_first_213, bL_first_219, uL_first_219, pvMk_t, pvMk_f, pvMk_n, pvRtG, pvRecv_r, pvUp_nl, pvUp_same, pvUp_ap, pvSt_ap, pvX_c, pvX_ms, pvX_mn, pvE_nil, pvEn_i, pvEn_r, pvEn_l, pvEn_0, pvEn_s, pvRt, pvRv, pvTh, pvKc, pvGo, pvTgt, Int.toNat_natCast, false_and, and_false, true_and, and_true, if_true, if_false, reduceIte, reduceCtorEq, forall_const, false_or, or_false, true_or, or_true, ne_eq, not_true_eq_false, not_false_eq_true, implies_true, false_implies, Nat.reduceAdd, Nat.reduceSub, Nat.reduceMul, Nat.reduceEqDiff, Nat.reduceLT, Nat.reduceLeDiff, Int.reduceAdd, Int.reduceSub, Int.reduceMul, Int.reduceNeg, Int.reduceToNat, Int.reduceLE, Int.reduceLT, Int.reduceEq, Int.reduceNe, and_self]
  have hw0 := hwr z hz0
  (repeat' first | with_reducible apply And.intro | with_reducible intro _)
  all_goals first
    | omega
    | (refine ⟨A, B, ⟨htA, ⟨rfl, rfl⟩, htB, ⟨rfl, rfl⟩, hdf, 2, hw0, by decide⟩, fun hp => ?_, fun hp => ?_⟩
       · (repeat' first | with_reducible apply And.intro | with_reducible intro _)
         all_goals first
           | omega
           | exact q2 (e0.mp hp)
       · (repeat' first | with_reducible apply And.intro | with_reducible intro _)
         all_goals first
           | omega
           | exact q1 (fun h => hp (e0.mpr h)))
    | trivial
