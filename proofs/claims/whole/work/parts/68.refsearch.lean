/-! the reference's search -/
def okB (v : Int) : Bool := decide (v % 6 = 0) || decide (v / 6 % 6 = 0) || decide (v / 36 = 0) || decide (v = 215)
def smR : Nat → Int
  | 0 => 0
  | v + 1 => smR v + (if okB (v : Int) = true then 1 else 0)
/-- the table of the small numbers -/
def smP (z : pvM) : Prop := ∀ v : Nat, v < 216 → z.1 52 v = if okB (v : Int) = true then smR v else -1
theorem okB_t {v : Int} : okB v = true ↔ (v % 6 = 0 ∨ v / 6 % 6 = 0 ∨ v / 36 = 0 ∨ v = 215) := by
  unfold okB
  simp only [Bool.or_eq_true, decide_eq_true_iff]
  constructor
  · rintro (((h | h) | h) | h)
    · exact Or.inl h
    · exact Or.inr (Or.inl h)
    · exact Or.inr (Or.inr (Or.inl h))
    · exact Or.inr (Or.inr (Or.inr h))
  · rintro (h | h | h | h)
    · exact Or.inl (Or.inl (Or.inl h))
    · exact Or.inl (Or.inl (Or.inr h))
    · exact Or.inl (Or.inr h)
    · exact Or.inr h
theorem smR_m (v j : Nat) : smR v ≤ smR (v + j) := by
  induction j with
  | zero => exact Int.le_refl _
  | succ j ih =>
    rw [← Nat.add_assoc]
    simp only [smR]
    split <;> omega
theorem smR_216 : smR 216 = 92 := by decide +kernel
theorem smR_lt {v : Nat} (hv : v < 216) (hb : okB (v : Int) = true) {w : Nat} (h : v < w) : smR v < smR w := by
  have h1 : smR (v + 1) = smR v + 1 := by simp only [smR]; rw [if_pos hb]
  have h2 := smR_m (v + 1) (w - (v + 1))
  rw [show v + 1 + (w - (v + 1)) = w by omega] at h2
  omega
theorem smR_r {v : Nat} (hv : v < 216) (hb : okB (v : Int) = true) : 0 ≤ smR v ∧ smR v < 92 := by
  have h1 := smR_m 0 v
  rw [Nat.zero_add] at h1
  have h2 := smR_lt hv hb hv
  rw [smR_216] at h2
  have h3 : smR 0 = 0 := rfl
  omega
theorem smR_inj {v w : Nat} (hv : v < 216) (hw : w < 216) (hb : okB (v : Int) = true) (hb' : okB (w : Int) = true) (e : smR v = smR w) : v = w := by
  rcases Nat.lt_trichotomy v w with h | h | h
  · have := smR_lt hv hb h; omega
  · exact h
  · have := smR_lt hw hb' h; omega
def ndC (c : Int) : Int := 256 * smR (c / 256).toNat + c % 256
theorem nc_b {c : Int} (h : okQ c) : (c / 256).toNat < 216 ∧ okB (((c / 256).toNat : Nat) : Int) = true ∧ (((c / 256).toNat : Nat) : Int) = c / 256 := by
  have h1 := h.2.1
  have e : (((c / 256).toNat : Nat) : Int) = c / 256 := by omega
  refine ⟨by omega, ?_, e⟩
  rw [e, okB_t]
  exact h.2.2
theorem nc_r {c : Int} (h : okQ c) : 0 ≤ ndC c ∧ ndC c < 23552 := by
  obtain ⟨a, b, -⟩ := nc_b h
  have := smR_r a b
  unfold ndC
  omega
theorem nc_inj {c c' : Int} (h : okQ c) (h' : okQ c') (e : ndC c = ndC c') : c = c' := by
  obtain ⟨a1, a2, a3⟩ := nc_b h
  obtain ⟨b1, b2, b3⟩ := nc_b h'
  unfold ndC at e
  have e1 : smR (c / 256).toNat = smR (c' / 256).toNat := by omega
  have := smR_inj a1 b1 a2 b2 e1
  omega
def nxC (c : Int) : Int := if c = -1 then -1 else ndC c
theorem nc_map {L : List Int} (h : L.Nodup) (hq : ∀ c ∈ L, okQ c) : (L.map ndC).Nodup := by
  induction L with
  | nil => exact List.nodup_nil
  | cons y t ih =>
    rw [List.nodup_cons] at h
    rw [List.map_cons, List.nodup_cons]
    refine ⟨fun hm => ?_, ih h.2 (fun c hc => hq c (List.mem_cons_of_mem _ hc))⟩
    obtain ⟨x, hx, e⟩ := List.mem_map.mp hm
    have := nc_inj (hq x (List.mem_cons_of_mem _ hx)) (hq y List.mem_cons_self) e
    subst this
    exact h.1 hx
/-- the other automaton of a search -/
def oaF (z : pvM) (s : Int) : Aut := if z.1 39 28 = 0 then emA else autR (z.1 40) (1 - s)
theorem and0 : ∀ x : Fin 16, pvAnd ((x : Nat) : Int) 0 = 0 := by decide +kernel
def C_X10_valueOf : pvC
  | [.inr (.inr (.inl id)), .inl n], z, Q => id = 39 ∧ ∃ c : Int, (smP z ∧ okQ c ∧ n = ndC c / 256) ∧ Q (.inl (some (vI (c / 256)))) z
  | _, _, _ => False
def bX10_valueOf : Nat → List (Instr × Nat)
  | 0 => [(.iconst 0, 1), (.istore_n 2, 1)]
  | 2 => [(.aload_n 0, 1), (.getfield 51, 3), (.iload_n 2, 1), (.iaload, 1), (.iload_n 1, 1), (.if_icmp .eq 9, 3), (.iinc 2 1, 3), (.goto (-13), 3)]
  | 18 => [(.iload_n 2, 1), (.ireturn, 1)]
  | _ => []
def uX10_valueOf : Nat → Option (List Bool)
  | 2 => some [true, true, true]
  | _ => none
def aX10_valueOf : pvCa
  | _ => none
theorem bX10_valueOf_0 : bX10_valueOf 0 = [(.iconst 0, 1), (.istore_n 2, 1)] := rfl
theorem uX10_valueOf_0 : uX10_valueOf 0 = none := rfl
theorem bX10_valueOf_2 : bX10_valueOf 2 = [(.aload_n 0, 1), (.getfield 51, 3), (.iload_n 2, 1), (.iaload, 1), (.iload_n 1, 1), (.if_icmp .eq 9, 3), (.iinc 2 1, 3), (.goto (-13), 3)] := rfl
theorem uX10_valueOf_2 : uX10_valueOf 2 = some [true, true, true] := rfl
theorem bX10_valueOf_18 : bX10_valueOf 18 = [(.iload_n 2, 1), (.ireturn, 1)] := rfl
theorem uX10_valueOf_18 : uX10_valueOf 18 = none := rfl
def mX10_valueOf : Room := { frames := 0, cells := 1, slots := 6, locals := 0 }
set_option maxRecDepth 100000 in
set_option maxHeartbeats 4000000 in
theorem okX10_valueOf : pvOkM fX10 aX10_valueOf kX10 eX10 (some .int) bX10_valueOf uX10_valueOf 3 C_X10_valueOf := by
  intro Q SW hc as z h hS hz
  unfold C_X10_valueOf at h
  split at h
  · rename_i id n
    obtain ⟨rfl, c, ⟨hs, hok, hn⟩, h2⟩ := h
    obtain ⟨a1, a2, a3⟩ := nc_b hok
    have hsr := smR_r a1 a2
    have hn' : n = smR (c / 256).toNat := by rw [hn]; unfold ndC; omega
    subst hn'
    rw [← a3] at h2
    obtain ⟨v, ev⟩ : ∃ v, (c / 256).toNat = v := ⟨_, rfl⟩
    rw [ev] at a1 a2 hsr h2 ⊢
    refine ⟨Nat.le_of_ble_eq_true rfl, ?_⟩
    have loop : ∀ (m k : Nat), k + m = v → SW 2 [some (vR 39), some (vI (smR v)), some (vI (k : Int))] z := by
      intro m
      induction m using Nat.strongRecOn with
      | _ m ih =>
        intro k hk
        have ek := hs k (by omega)
        refine hc 20 _ _ _ fun _ _ => ?_
        simp only [pvSt1]
        simp only [ek, pvE_iconst, pvE_istore_n2, pvS1, List.length_cons, List.length_nil, pvClr_i, pvClr_r, pvClr_l, pvClr_d, pvClr_f, pvClr_n, pvE_aload_n0, pvLA_s, pvLd, pvE_getfield, pvGf_0, pvGf_1, pvGf_2, fX10_51, pvSh_0, pvSh_1, pvSh_2, pvSh_3, pvSh_4, pvSh_5, pvSh_6, pvSh_7, pvSh_8, pvSh_9, pvSh_10, pvSh_11, pvSh_12, pvSh_13, pvSh_14, pvSh_15, pvSh_16, pvSh_17, pvSh_18, pvSh_19, pvSh_20, pvSh_21, pvSh_22, pvSh_23, pvSh_24, pvSh_25, pvSh_26, pvSh_27, pvSh_28, pvSh_29, pvSh_30, pvSh_31, pvSh_32, pvSh_33, pvSh_34, pvSh_35, pvSh_36, pvSh_37, pvSh_38, pvSh_39, pvSh_40, pvSh_41, pvSh_42, pvSh_43, pvSh_44, pvSh_45, pvSh_46, pvSh_47, pvSh_48, pvSh_49, pvSh_50, pvSh_51, pvSh_52, pvSh_53, pvSh_54, pvSh_55, pvSh_56, pvSh_57, pvSh_58, pvSh_59, pvRf_0_0, pvRf_0_1, pvRf_0_2, pvRf_0_3, pvRf_0_4, pvRf_0_5, pvRf_0_6, pvRf_0_7, pvRf_0_8, pvRf_0_9, pvRf_0_10, pvRf_1_0, pvRf_3_0, pvRf_5_0, pvRf_5_1, pvRf_5_2, pvRf_9_0, pvRf_9_1, pvRf_9_2, pvRf_13_0, pvRf_13_1, pvRf_13_2, pvRf_17_0, pvRf_17_2, pvRf_20_0, pvRf_20_1, pvRf_20_2, pvRf_24_0, pvRf_24_1, pvRf_24_2, pvRf_28_0, pvRf_28_1, pvRf_28_2, pvRf_28_3, pvRf_33_0, pvRf_33_1, pvRf_36_0, pvRf_36_1, pvRf_39_0, pvRf_39_1, pvRf_39_2, pvRf_39_5, pvRf_39_6, pvRf_39_9, pvRf_39_13, pvRf_39_15, pvRf_39_16, pvRf_39_17, pvRf_39_19, pvRf_39_20, pvRf_39_22, pvRf_39_23, pvRf_39_24, pvRf_39_25, pvRf_39_29, pvRf_39_30, pvE_iload_n2, pvLI_s, pvE_iaload, pvAI, pvE_iload_n1, pvE_icmp_eq, pvE_iinc, pvIc_s, pvE_goto, pvE_ireturn, bX10_valueOf_0, uX10_valueOf_0, bX10_valueOf_2, uX10_valueOf_2, bX10_valueOf_18, uX10_valueOf_18, pvMk_t, pvMk_f, pvMk_n, pvRecv_r, pvUp_nl, pvUp_same, pvUp_ap, pvSt_ap, pvX_c, pvX_ms, pvX_mn, pvE_nil, pvEn_i, pvEn_r, pvEn_l, pvEn_0, pvEn_s, pvRt, pvRv, pvTh, pvKc, pvGo, pvTgt, Int.toNat_natCast, false_and, and_false, true_and, and_true, if_true, if_false, reduceIte, reduceCtorEq, forall_const, false_or, or_false, true_or, or_true, ne_eq, not_true_eq_false, not_false_eq_true, implies_true, false_implies, Nat.reduceAdd, Nat.reduceSub, Nat.reduceMul, Nat.reduceEqDiff, Nat.reduceLT, Nat.reduceLeDiff, Int.reduceAdd, Int.reduceSub, Int.reduceMul, Int.reduceNeg, Int.reduceToNat, Int.reduceLE, Int.reduceLT, Int.reduceEq, Int.reduceNe, and_self]
        by_cases e : k = v
        · subst e
          rw [if_pos a2]
          (repeat' first | with_reducible apply And.intro | with_reducible intro _)
          all_goals first
            | omega
            | contradiction
            | exact h2
            | (exfalso; apply_assumption; rfl)
        · have q9 := ih (m - 1) (by omega) (k + 1) (by omega)
          by_cases eb : okB (k : Int) = true
          · rw [if_pos eb]
            have := smR_lt (show k < 216 by omega) eb (show k < v by omega)
            (repeat' first | with_reducible apply And.intro | with_reducible intro _)
            all_goals first
              | omega
              | contradiction
              | exact q9
          · rw [if_neg eb]
            (repeat' first | with_reducible apply And.intro | with_reducible intro _)
            all_goals first
              | omega
              | contradiction
              | exact q9
    refine hc 20 _ _ _ fun _ _ => ?_
    simp only [pvSt1]
    simp only [pvE_iconst, pvE_istore_n2, pvS1, List.length_cons, List.length_nil, pvClr_i, pvClr_r, pvClr_l, pvClr_d, pvClr_f, pvClr_n, pvE_aload_n0, pvLA_s, pvLd, pvE_getfield, pvGf_0, pvGf_1, pvGf_2, fX10_51, pvSh_0, pvSh_1, pvSh_2, pvSh_3, pvSh_4, pvSh_5, pvSh_6, pvSh_7, pvSh_8, pvSh_9, pvSh_10, pvSh_11, pvSh_12, pvSh_13, pvSh_14, pvSh_15, pvSh_16, pvSh_17, pvSh_18, pvSh_19, pvSh_20, pvSh_21, pvSh_22, pvSh_23, pvSh_24, pvSh_25, pvSh_26, pvSh_27, pvSh_28, pvSh_29, pvSh_30, pvSh_31, pvSh_32, pvSh_33, pvSh_34, pvSh_35, pvSh_36, pvSh_37, pvSh_38, pvSh_39, pvSh_40, pvSh_41, pvSh_42, pvSh_43, pvSh_44, pvSh_45, pvSh_46, pvSh_47, pvSh_48, pvSh_49, pvSh_50, pvSh_51, pvSh_52, pvSh_53, pvSh_54, pvSh_55, pvSh_56, pvSh_57, pvSh_58, pvSh_59, pvRf_0_0, pvRf_0_1, pvRf_0_2, pvRf_0_3, pvRf_0_4, pvRf_0_5, pvRf_0_6, pvRf_0_7, pvRf_0_8, pvRf_0_9, pvRf_0_10, pvRf_1_0, pvRf_3_0, pvRf_5_0, pvRf_5_1, pvRf_5_2, pvRf_9_0, pvRf_9_1, pvRf_9_2, pvRf_13_0, pvRf_13_1, pvRf_13_2, pvRf_17_0, pvRf_17_2, pvRf_20_0, pvRf_20_1, pvRf_20_2, pvRf_24_0, pvRf_24_1, pvRf_24_2, pvRf_28_0, pvRf_28_1, pvRf_28_2, pvRf_28_3, pvRf_33_0, pvRf_33_1, pvRf_36_0, pvRf_36_1, pvRf_39_0, pvRf_39_1, pvRf_39_2, pvRf_39_5, pvRf_39_6, pvRf_39_9, pvRf_39_13, pvRf_39_15, pvRf_39_16, pvRf_39_17, pvRf_39_19, pvRf_39_20, pvRf_39_22, pvRf_39_23, pvRf_39_24, pvRf_39_25, pvRf_39_29, pvRf_39_30, pvE_iload_n2, pvLI_s, pvE_iaload, pvAI, pvE_iload_n1, pvE_icmp_eq, pvE_iinc, pvIc_s, pvE_goto, pvE_ireturn, bX10_valueOf_0, uX10_valueOf_0, bX10_valueOf_2, uX10_valueOf_2, bX10_valueOf_18, uX10_valueOf_18, pvMk_t, pvMk_f, pvMk_n, pvRecv_r, pvUp_nl, pvUp_same, pvUp_ap, pvSt_ap, pvX_c, pvX_ms, pvX_mn, pvE_nil, pvEn_i, pvEn_r, pvEn_l, pvEn_0, pvEn_s, pvRt, pvRv, pvTh, pvKc, pvGo, pvTgt, Int.toNat_natCast, false_and, and_false, true_and, and_true, if_true, if_false, reduceIte, reduceCtorEq, forall_const, false_or, or_false, true_or, or_true, ne_eq, not_true_eq_false, not_false_eq_true, implies_true, false_implies, Nat.reduceAdd, Nat.reduceSub, Nat.reduceMul, Nat.reduceEqDiff, Nat.reduceLT, Nat.reduceLeDiff, Int.reduceAdd, Int.reduceSub, Int.reduceMul, Int.reduceNeg, Int.reduceToNat, Int.reduceLE, Int.reduceLT, Int.reduceEq, Int.reduceNe, and_self]
    (repeat' first | with_reducible apply And.intro | with_reducible intro _)
    all_goals first
      | omega
      | exact loop v 0 (by omega)
  · exact h.elim
theorem nc_o {c : Int} (h : okQ c) : ndC c / 16 % 16 = c / 16 % 16 ∧ ndC c % 16 = c % 16 := by
  obtain ⟨a1, a2, -⟩ := nc_b h
  have := smR_r a1 a2
  unfold ndC
  omega
/-- a search's automata, as the reference holds them -/
def srP (z : pvM) (s : Int) (A B : Aut) : Prop := (0 ≤ s ∧ s ≤ 1) ∧ (z.1 39 28 = 0 ∨ z.1 39 28 = 1) ∧ (∀ s' : Int, 0 ≤ s' ∧ s' ≤ 1 → WfA (autR (z.1 40) s')) ∧ (∀ s' : Int, 0 ≤ s' ∧ s' ≤ 1 → ldP (z.1 48) s' (autR (z.1 40) s')) ∧ smP z ∧ A = autR (z.1 40) s ∧ B = oaF z s
theorem srP_w {z : pvM} {s : Int} {A B : Aut} (h : srP z s A B) : WfA A ∧ WfA B := by
  obtain ⟨h1, h2, h3, h4, h5, rfl, rfl⟩ := h
  refine ⟨h3 s h1, ?_⟩
  unfold oaF
  split
  · exact emA_w
  · exact h3 _ (by omega)
theorem srP_m {z z' : pvM} {s : Int} {A B : Aut} {ids jds : List Nat} (h : srP z s A B) (hf : frF ids jds z z') (hi : ∀ x ∈ ids, x = 39 ∨ x = 43 ∨ x = 44 ∨ 53 ≤ x) (h28 : z'.1 39 28 = z.1 39 28) : srP z' s A B := by
  have e40 : z'.1 40 = z.1 40 := hf.1 40 (fun hm => by have := hi _ hm; omega)
  have e48 : z'.1 48 = z.1 48 := hf.1 48 (fun hm => by have := hi _ hm; omega)
  have e52 : z'.1 52 = z.1 52 := hf.1 52 (fun hm => by have := hi _ hm; omega)
  unfold srP smP oaF at h ⊢
  rw [e40, e48, e52, h28]
  exact h
def C_X10_isGoal : pvC
  | [.inr (.inr (.inl id)), .inl s, .inl n], z, Q => id = 39 ∧ ∃ (A B : Aut) (c : Int), (srP z s A B ∧ okQ c ∧ n = ndC c) ∧ (goF A B c → Q (.inl (some (vI 1))) z) ∧ (¬ goF A B c → Q (.inl (some (vI 0))) z)
  | _, _, _ => False
def bX10_isGoal : Nat → List (Instr × Nat)
  | 0 => [(.iload_n 2, 1), (.bipush 16, 2), (.idiv, 1), (.bipush 16, 2), (.irem, 1), (.aload_n 0, 1), (.getfield 7, 3), (.sipush 163, 3), (.iload_n 1, 1), (.imul, 1), (.iconst 1, 1), (.iadd, 1), (.iaload, 1), (.iand, 1), (.ifCond .eq 7, 3), (.iconst 1, 1), (.goto 4, 3)]
  | 27 => [(.iconst 0, 1)]
  | 28 => [(.istore_n 3, 1), (.iload_n 3, 1), (.ifCond .eq 36, 3), (.aload_n 0, 1), (.getfield 222, 3), (.ifCond .eq 25, 3), (.iload_n 2, 1), (.bipush 16, 2), (.irem, 1), (.aload_n 0, 1), (.getfield 7, 3), (.sipush 163, 3), (.iconst 1, 1), (.iload_n 1, 1), (.isub, 1), (.imul, 1), (.iconst 1, 1), (.iadd, 1), (.iaload, 1), (.iand, 1), (.ifCond .ne 7, 3)]
  | 62 => [(.iconst 1, 1), (.goto 4, 3)]
  | 66 => [(.iconst 0, 1)]
  | 67 => [(.ireturn, 1)]
  | _ => []
def uX10_isGoal : Nat → Option (List Bool)
  | _ => none
def aX10_isGoal : pvCa
  | _ => none
theorem bX10_isGoal_0 : bX10_isGoal 0 = [(.iload_n 2, 1), (.bipush 16, 2), (.idiv, 1), (.bipush 16, 2), (.irem, 1), (.aload_n 0, 1), (.getfield 7, 3), (.sipush 163, 3), (.iload_n 1, 1), (.imul, 1), (.iconst 1, 1), (.iadd, 1), (.iaload, 1), (.iand, 1), (.ifCond .eq 7, 3), (.iconst 1, 1), (.goto 4, 3)] := rfl
theorem uX10_isGoal_0 : uX10_isGoal 0 = none := rfl
theorem bX10_isGoal_27 : bX10_isGoal 27 = [(.iconst 0, 1)] := rfl
theorem uX10_isGoal_27 : uX10_isGoal 27 = none := rfl
theorem bX10_isGoal_28 : bX10_isGoal 28 = [(.istore_n 3, 1), (.iload_n 3, 1), (.ifCond .eq 36, 3), (.aload_n 0, 1), (.getfield 222, 3), (.ifCond .eq 25, 3), (.iload_n 2, 1), (.bipush 16, 2), (.irem, 1), (.aload_n 0, 1), (.getfield 7, 3), (.sipush 163, 3), (.iconst 1, 1), (.iload_n 1, 1), (.isub, 1), (.imul, 1), (.iconst 1, 1), (.iadd, 1), (.iaload, 1), (.iand, 1), (.ifCond .ne 7, 3)] := rfl
theorem uX10_isGoal_28 : uX10_isGoal 28 = none := rfl
theorem bX10_isGoal_62 : bX10_isGoal 62 = [(.iconst 1, 1), (.goto 4, 3)] := rfl
theorem uX10_isGoal_62 : uX10_isGoal 62 = none := rfl
theorem bX10_isGoal_66 : bX10_isGoal 66 = [(.iconst 0, 1)] := rfl
theorem uX10_isGoal_66 : uX10_isGoal 66 = none := rfl
theorem bX10_isGoal_67 : bX10_isGoal 67 = [(.ireturn, 1)] := rfl
theorem uX10_isGoal_67 : uX10_isGoal 67 = none := rfl
def mX10_isGoal : Room := { frames := 0, cells := 1, slots := 6, locals := 0 }
set_option maxRecDepth 100000 in
set_option maxHeartbeats 4000000 in
theorem okX10_isGoal : pvOkM fX10 aX10_isGoal kX10 eX10 (some .boolean) bX10_isGoal uX10_isGoal 4 C_X10_isGoal := by
  intro Q SW hc as z h hS hz
  unfold C_X10_isGoal at h
  split at h
  · rename_i id s n
    obtain ⟨rfl, A, B, c, ⟨hs, hok, rfl⟩, h1, h2⟩ := h
    obtain ⟨s1, s2, s3, s4, s5, rfl, rfl⟩ := hs
    obtain ⟨o1, o2⟩ := nc_o hok
    have hnr := nc_r hok
    have gf : z.1 40 (163 * s + 1).toNat = (autR (z.1 40) s).2.2.1 := rS_f s1.1 rfl
    have gf2 : z.1 40 (163 * (1 - s) + 1).toNat = (autR (z.1 40) (1 - s)).2.2.1 := rS_f (by omega) rfl
    refine ⟨Nat.le_of_ble_eq_true rfl, hc 20 _ _ _ fun _ _ => ?_⟩
    clear hc hS hz
    simp only [pvSt1]
    simp only [gf, gf2, o1, o2, pvE_iload_n2, pvLI_s, pvLd, pvE_bipush, pvE_idiv, pvE_irem, pvE_aload_n0, pvLA_s, pvE_getfield, pvGf_0, pvGf_1, pvGf_2, fX10_7, pvSh_0, pvSh_1, pvSh_2, pvSh_3, pvSh_4, pvSh_5, pvSh_6, pvSh_7, pvSh_8, pvSh_9, pvSh_10, pvSh_11, pvSh_12, pvSh_13, pvSh_14, pvSh_15, pvSh_16, pvSh_17, pvSh_18, pvSh_19, pvSh_20, pvSh_21, pvSh_22, pvSh_23, pvSh_24, pvSh_25, pvSh_26, pvSh_27, pvSh_28, pvSh_29, pvSh_30, pvSh_31, pvSh_32, pvSh_33, pvSh_34, pvSh_35, pvSh_36, pvSh_37, pvSh_38, pvSh_39, pvSh_40, pvSh_41, pvSh_42, pvSh_43, pvSh_44, pvSh_45, pvSh_46, pvSh_47, pvSh_48, pvSh_49, pvSh_50, pvSh_51, pvSh_52, pvSh_53, pvSh_54, pvSh_55, pvSh_56, pvSh_57, pvSh_58, pvSh_59, pvRf_0_0, pvRf_0_1, pvRf_0_2, pvRf_0_3, pvRf_0_4, pvRf_0_5, pvRf_0_6, pvRf_0_7, pvRf_0_8, pvRf_0_9, pvRf_0_10, pvRf_1_0, pvRf_3_0, pvRf_5_0, pvRf_5_1, pvRf_5_2, pvRf_9_0, pvRf_9_1, pvRf_9_2, pvRf_13_0, pvRf_13_1, pvRf_13_2, pvRf_17_0, pvRf_17_2, pvRf_20_0, pvRf_20_1, pvRf_20_2, pvRf_24_0, pvRf_24_1, pvRf_24_2, pvRf_28_0, pvRf_28_1, pvRf_28_2, pvRf_28_3, pvRf_33_0, pvRf_33_1, pvRf_36_0, pvRf_36_1, pvRf_39_0, pvRf_39_1, pvRf_39_2, pvRf_39_5, pvRf_39_6, pvRf_39_9, pvRf_39_13, pvRf_39_15, pvRf_39_16, pvRf_39_17, pvRf_39_19, pvRf_39_20, pvRf_39_22, pvRf_39_23, pvRf_39_24, pvRf_39_25, pvRf_39_29, pvRf_39_30, pvE_sipush, pvE_iload_n1, pvE_imul, pvE_iconst, pvE_iadd, pvE_iaload, pvAI, pvE_iand, pvE_if_eq, pvE_goto, pvE_istore_n3, pvS1, List.length_cons, List.length_nil, pvClr_i, pvClr_r, pvClr_l, pvClr_d, pvClr_f, pvClr_n, pvE_iload_n3, fX10_222, pvE_isub, pvE_if_ne, pvE_ireturn, bX10_isGoal_0, uX10_isGoal_0, bX10_isGoal_27, uX10_isGoal_27, bX10_isGoal_28, uX10_isGoal_28, bX10_isGoal_62, uX10_isGoal_62, bX10_isGoal_66, uX10_isGoal_66, bX10_isGoal_67, uX10_isGoal_67, pvRecv_r, pvUp_nl, pvUp_same, pvUp_ap, pvSt_ap, pvX_c, pvX_ms, pvX_mn, pvE_nil, pvEn_i, pvEn_r, pvEn_l, pvEn_0, pvEn_s, pvRt, pvRv, pvTh, pvKc, pvGo, pvTgt, Int.toNat_natCast, false_and, and_false, true_and, and_true, if_true, if_false, reduceIte, reduceCtorEq, forall_const, false_or, or_false, true_or, or_true, ne_eq, not_true_eq_false, not_false_eq_true, implies_true, false_implies, Nat.reduceAdd, Nat.reduceSub, Nat.reduceMul, Nat.reduceEqDiff, Nat.reduceLT, Nat.reduceLeDiff, Int.reduceAdd, Int.reduceSub, Int.reduceMul, Int.reduceNeg, Int.reduceToNat, Int.reduceLE, Int.reduceLT, Int.reduceEq, Int.reduceNe, and_self]
    unfold goF oaF at h1 h2
    rcases s2 with s2 | s2
    · rw [if_pos s2] at h1 h2
      have e0 : pvAnd (c % 16) emA.2.2.1 = 0 := by
        obtain ⟨x, ex⟩ := fin_of (a := c % 16) (n := 16) (by omega)
        rw [ex]
        exact and0 x
      rw [e0] at h1 h2
      by_cases e : pvAnd (c / 16 % 16) (autR (z.1 40) s).2.2.1 = 0
      · have q9 := h2 (fun q => q.1 e)
        (repeat' first | with_reducible apply And.intro | with_reducible intro _)
        all_goals first
          | omega
          | contradiction
          | exact q9
      · have q9 := h1 ⟨e, rfl⟩
        (repeat' first | with_reducible apply And.intro | with_reducible intro _)
        all_goals first
          | omega
          | contradiction
          | exact q9
    · rw [if_neg (by omega)] at h1 h2
      by_cases e : pvAnd (c / 16 % 16) (autR (z.1 40) s).2.2.1 = 0
      · have q9 := h2 (fun q => q.1 e)
        (repeat' first | with_reducible apply And.intro | with_reducible intro _)
        all_goals first
          | omega
          | contradiction
          | exact q9
      · by_cases e2 : pvAnd (c % 16) (autR (z.1 40) (1 - s)).2.2.1 = 0
        · have q9 := h1 ⟨e, e2⟩
          (repeat' first | with_reducible apply And.intro | with_reducible intro _)
          all_goals first
            | omega
            | contradiction
            | exact q9
        · have q9 := h2 (fun q => e2 q.2)
          (repeat' first | with_reducible apply And.intro | with_reducible intro _)
          all_goals first
            | omega
            | contradiction
            | exact q9
  · exact h.elim
def C_X10_follows : pvC
  | [.inr (.inr (.inl id)), .inl s, .inl n, .inl v, .inl a, .inl d], z, Q => id = 39 ∧ ∃ (A B : Aut) (c : Int), (srP z s A B ∧ okQ c ∧ n = ndC c ∧ v = c / 256 ∧ (0 ≤ a ∧ a ≤ 2) ∧ 0 ≤ d ∧ d ≤ 4) ∧ Q (.inl (some (vI (nxC (stF1 A B c a d))))) z
  | _, _, _ => False
def bX10_follows : Nat → List (Instr × Nat)
  | 0 => [(.iload_n 3, 1), (.iload 5, 2), (.invokestatic 164, 3), (.istore 6, 2), (.aload_n 0, 1), (.iload_n 1, 1), (.iload_n 2, 1), (.bipush 16, 2), (.idiv, 1), (.bipush 16, 2), (.irem, 1), (.iload 4, 2), (.iload 6, 2), (.invokevirtual 203, 3), (.istore 7, 2), (.aload_n 0, 1), (.getfield 222, 3), (.ifCond .eq 21, 3), (.aload_n 0, 1), (.iconst 1, 1), (.iload_n 1, 1), (.isub, 1), (.iload_n 2, 1), (.bipush 16, 2), (.irem, 1), (.iload 4, 2), (.iload 6, 2), (.invokevirtual 203, 3), (.goto 4, 3)]
  | 51 => [(.iconst 0, 1)]
  | 52 => [(.istore 8, 2), (.iload 7, 2), (.ifCond .ne 7, 3), (.iconst (-1), 1), (.goto 28, 3)]
  | 63 => [(.sipush 256, 3), (.aload_n 0, 1), (.getfield 51, 3), (.iload 6, 2), (.iload 4, 2), (.invokestatic 167, 3), (.iaload, 1), (.imul, 1), (.bipush 16, 2), (.iload 7, 2), (.imul, 1), (.iadd, 1), (.iload 8, 2), (.iadd, 1)]
  | 88 => [(.ireturn, 1)]
  | _ => []
def uX10_follows : Nat → Option (List Bool)
  | _ => none
def aX10_follows : pvCa
  | 164 => some (2, true, 0, 0, C_X10_passes)
  | 167 => some (2, true, 0, 0, C_X10_resets)
  | 203 => some (5, false, 9, 0, C_X10_steps)
  | _ => none
theorem bX10_follows_0 : bX10_follows 0 = [(.iload_n 3, 1), (.iload 5, 2), (.invokestatic 164, 3), (.istore 6, 2), (.aload_n 0, 1), (.iload_n 1, 1), (.iload_n 2, 1), (.bipush 16, 2), (.idiv, 1), (.bipush 16, 2), (.irem, 1), (.iload 4, 2), (.iload 6, 2), (.invokevirtual 203, 3), (.istore 7, 2), (.aload_n 0, 1), (.getfield 222, 3), (.ifCond .eq 21, 3), (.aload_n 0, 1), (.iconst 1, 1), (.iload_n 1, 1), (.isub, 1), (.iload_n 2, 1), (.bipush 16, 2), (.irem, 1), (.iload 4, 2), (.iload 6, 2), (.invokevirtual 203, 3), (.goto 4, 3)] := rfl
theorem uX10_follows_0 : uX10_follows 0 = none := rfl
theorem bX10_follows_51 : bX10_follows 51 = [(.iconst 0, 1)] := rfl
theorem uX10_follows_51 : uX10_follows 51 = none := rfl
theorem bX10_follows_52 : bX10_follows 52 = [(.istore 8, 2), (.iload 7, 2), (.ifCond .ne 7, 3), (.iconst (-1), 1), (.goto 28, 3)] := rfl
theorem uX10_follows_52 : uX10_follows 52 = none := rfl
theorem bX10_follows_63 : bX10_follows 63 = [(.sipush 256, 3), (.aload_n 0, 1), (.getfield 51, 3), (.iload 6, 2), (.iload 4, 2), (.invokestatic 167, 3), (.iaload, 1), (.imul, 1), (.bipush 16, 2), (.iload 7, 2), (.imul, 1), (.iadd, 1), (.iload 8, 2), (.iadd, 1)] := rfl
theorem uX10_follows_63 : uX10_follows 63 = none := rfl
theorem bX10_follows_88 : bX10_follows 88 = [(.ireturn, 1)] := rfl
theorem uX10_follows_88 : uX10_follows 88 = none := rfl
theorem aX10_follows_164 : aX10_follows 164 = some (2, true, 0, 0, C_X10_passes) := rfl
theorem aX10_follows_167 : aX10_follows 167 = some (2, true, 0, 0, C_X10_resets) := rfl
theorem aX10_follows_203 : aX10_follows 203 = some (5, false, 9, 0, C_X10_steps) := rfl
def mX10_follows : Room := { frames := 2, cells := 1, slots := 6, locals := 42 }
set_option maxRecDepth 100000 in
set_option maxHeartbeats 4000000 in
theorem okX10_follows : pvOkM fX10 aX10_follows kX10 eX10 (some .int) bX10_follows uX10_follows 9 C_X10_follows := by
  intro Q SW hc as z h hS hz
  unfold C_X10_follows at h
  split at h
  · rename_i id s n v a d
    obtain ⟨rfl, A, B, c, ⟨hs, hok, rfl, rfl, ha, hd⟩, h2⟩ := h
    obtain ⟨wA, wB⟩ := srP_w hs
    obtain ⟨s1, s2, s3, s4, s5, eA, eB⟩ := hs
    obtain ⟨o1, o2⟩ := nc_o hok
    have hnr := nc_r hok
    have hcv := hok.2.1
    have hc0 := hok.1
    have hv := psF_r (v := c / 256) (d := d) (by omega)
    have hrs := rs_ok hv (a := a) (by omega)
    have hrs1 := hrs.1
    have r1 := sbF_r wA (c / 16 % 16) a (psF (c / 256) d)
    have r2 := sbF_r wB (c % 16) a (psF (c / 256) d)
    have est : stF1 A B c a d = if sbF A (c / 16 % 16) a (psF (c / 256) d) = 0 then -1 else 256 * rsF (psF (c / 256) d) a + 16 * sbF A (c / 16 % 16) a (psF (c / 256) d) + sbF B (c % 16) a (psF (c / 256) d) := rfl
    have hsm : z.1 52 (rsF (psF (c / 256) d) a).toNat = smR (rsF (psF (c / 256) d) a).toNat := by
      rw [s5 _ (by omega), if_pos]
      rw [show (((rsF (psF (c / 256) d) a).toNat : Nat) : Int) = rsF (psF (c / 256) d) a by omega, okB_t]
      exact hrs.2
    have hsr := smR_r (v := (rsF (psF (c / 256) d) a).toNat) (by omega) (by rw [show (((rsF (psF (c / 256) d) a).toNat : Nat) : Int) = rsF (psF (c / 256) d) a by omega, okB_t]; exact hrs.2)
    have w0 := s3 s s1
    have w1 := s3 (1 - s) (by omega)
    have l0 := s4 s s1
    have l1 := s4 (1 - s) (by omega)
    have fin : ∀ x : Int, x = nxC (stF1 A B c a d) → Q (.inl (some (vI x))) z := fun x hx => by rw [hx]; exact h2
    have val : sbF A (c / 16 % 16) a (psF (c / 256) d) ≠ 0 → nxC (stF1 A B c a d) = 256 * smR (rsF (psF (c / 256) d) a).toNat + 16 * sbF A (c / 16 % 16) a (psF (c / 256) d) + sbF B (c % 16) a (psF (c / 256) d) := by
      intro h9
      rw [if_neg h9] at est
      unfold nxC
      rw [if_neg (by omega)]
      unfold ndC
      rw [show stF1 A B c a d / 256 = rsF (psF (c / 256) d) a by omega, show stF1 A B c a d % 256 = 16 * sbF A (c / 16 % 16) a (psF (c / 256) d) + sbF B (c % 16) a (psF (c / 256) d) by omega]
      omega
    have val0 : sbF A (c / 16 % 16) a (psF (c / 256) d) = 0 → nxC (stF1 A B c a d) = -1 := by
      intro h9
      rw [if_pos h9] at est
      unfold nxC
      rw [if_pos est]
    refine ⟨Nat.le_of_ble_eq_true rfl, hc 20 _ _ _ fun _ _ => ?_⟩
    clear hc hS hz h2
    simp only [pvSt1]
    simp only [C_X10_passes, C_X10_steps, C_X10_resets, o1, o2, hsm, pvE_iload_n3, pvLI_s, pvLd, pvE_iload, pvE_invokestatic (h0 := eX10_164), pvC1_s, pvC2_s, pvAf_v, pvAf_x, pvPop, pvCs, pvCat, pvPush, aX10_follows_164, pvE_istore, pvS1, List.length_cons, List.length_nil, pvClr_i, pvClr_r, pvClr_l, pvClr_d, pvClr_f, pvClr_n, pvE_aload_n0, pvLA_s, pvE_iload_n1, pvE_iload_n2, pvE_bipush, pvE_idiv, pvE_irem, pvE_invokevirtual, aX10_follows_203, pvSh_0, pvSh_1, pvSh_2, pvSh_3, pvSh_4, pvSh_5, pvSh_6, pvSh_7, pvSh_8, pvSh_9, pvSh_10, pvSh_11, pvSh_12, pvSh_13, pvSh_14, pvSh_15, pvSh_16, pvSh_17, pvSh_18, pvSh_19, pvSh_20, pvSh_21, pvSh_22, pvSh_23, pvSh_24, pvSh_25, pvSh_26, pvSh_27, pvSh_28, pvSh_29, pvSh_30, pvSh_31, pvSh_32, pvSh_33, pvSh_34, pvSh_35, pvSh_36, pvSh_37, pvSh_38, pvSh_39, pvSh_40, pvSh_41, pvSh_42, pvSh_43, pvSh_44, pvSh_45, pvSh_46, pvSh_47, pvSh_48, pvSh_49, pvSh_50, pvSh_51, pvSh_52, pvSh_53, pvSh_54, pvSh_55, pvSh_56, pvSh_57, pvSh_58, pvSh_59, pvE_getfield, pvGf_0, pvGf_1, pvGf_2, fX10_222, pvRf_0_0, pvRf_0_1, pvRf_0_2, pvRf_0_3, pvRf_0_4, pvRf_0_5, pvRf_0_6, pvRf_0_7, pvRf_0_8, pvRf_0_9, pvRf_0_10, pvRf_1_0, pvRf_3_0, pvRf_5_0, pvRf_5_1, pvRf_5_2, pvRf_9_0, pvRf_9_1, pvRf_9_2, pvRf_13_0, pvRf_13_1, pvRf_13_2, pvRf_17_0, pvRf_17_2, pvRf_20_0, pvRf_20_1, pvRf_20_2, pvRf_24_0, pvRf_24_1, pvRf_24_2, pvRf_28_0, pvRf_28_1, pvRf_28_2, pvRf_28_3, pvRf_33_0, pvRf_33_1, pvRf_36_0, pvRf_36_1, pvRf_39_0, pvRf_39_1, pvRf_39_2, pvRf_39_5, pvRf_39_6, pvRf_39_9, pvRf_39_13, pvRf_39_15, pvRf_39_16, pvRf_39_17, pvRf_39_19, pvRf_39_20, pvRf_39_22, pvRf_39_23, pvRf_39_24, pvRf_39_25, pvRf_39_29, pvRf_39_30, pvE_if_eq, pvE_iconst, pvE_isub, pvE_goto, pvE_if_ne, pvE_sipush, fX10_51, pvE_invokestatic (h0 := eX10_167), aX10_follows_167, pvE_iaload, pvAI, pvE_imul, pvE_iadd, pvE_ireturn, bX10_follows_0, uX10_follows_0, bX10_follows_51, uX10_follows_51, bX10_follows_52, uX10_follows_52, bX10_follows_63, uX10_follows_63, bX10_follows_88, uX10_follows_88, pvRecv_r, pvUp_nl, pvUp_same, pvUp_ap, pvSt_ap, pvX_c, pvX_ms, pvX_mn, pvE_nil, pvEn_i, pvEn_r, pvEn_l, pvEn_0, pvEn_s, pvRt, pvRv, pvTh, pvKc, pvGo, pvTgt, Int.toNat_natCast, false_and, and_false, true_and, and_true, if_true, if_false, reduceIte, reduceCtorEq, forall_const, false_or, or_false, true_or, or_true, ne_eq, not_true_eq_false, not_false_eq_true, implies_true, false_implies, Nat.reduceAdd, Nat.reduceSub, Nat.reduceMul, Nat.reduceEqDiff, Nat.reduceLT, Nat.reduceLeDiff, Int.reduceAdd, Int.reduceSub, Int.reduceMul, Int.reduceNeg, Int.reduceToNat, Int.reduceLE, Int.reduceLT, Int.reduceEq, Int.reduceNe, and_self]
    subst eA
    rcases s2 with s2 | s2
    · have eB' : B = emA := by rw [eB]; unfold oaF; rw [if_pos s2]
      have eb0 : sbF B (c % 16) a (psF (c / 256) d) = 0 := by rw [eB']; exact sbF_em _ _ _
      by_cases e : sbF (autR (z.1 40) s) (c / 16 % 16) a (psF (c / 256) d) = 0
      · have q9 := fin _ (val0 e).symm
        (repeat' first | with_reducible apply And.intro | with_reducible intro _)
        all_goals first
          | omega
          | contradiction
          | assumption
      · have q9 := fin _ (val e).symm
        rw [eb0] at q9
        (repeat' first | with_reducible apply And.intro | with_reducible intro _)
        all_goals first
          | omega
          | contradiction
          | assumption
    · have eB' : B = autR (z.1 40) (1 - s) := by rw [eB]; unfold oaF; rw [if_neg (by omega)]
      rw [← eB'] at w1 l1 ⊢
      by_cases e : sbF (autR (z.1 40) s) (c / 16 % 16) a (psF (c / 256) d) = 0
      · have q9 := fin _ (val0 e).symm
        (repeat' first | with_reducible apply And.intro | with_reducible intro _)
        all_goals first
          | omega
          | contradiction
          | assumption
      · have q9 := fin _ (val e).symm
        (repeat' first | with_reducible apply And.intro | with_reducible intro _)
        all_goals first
          | omega
          | contradiction
          | assumption
  · exact h.elim
