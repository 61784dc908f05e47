theorem adA_p {A : Aut} {q a r w : Int} {p G : Nat → Int} (h : ∀ j : Nat, j < 3 * w.toNat → p j = G j) : adA A q a r w p = adA A q a r w G := by
  have e : rwF q a r w p = rwF q a r w G := by
    funext c
    unfold rwF
    by_cases c4 : c < 4
    · rcases (show c = 0 ∨ c = 1 ∨ c = 2 ∨ c = 3 by omega) with rfl | rfl | rfl | rfl <;> rfl
    · by_cases c5 : c < 4 + 3 * w.toNat
      · rw [if_pos c5, if_pos c5, h (c - 4) (by omega)]
      · rw [if_neg c5, if_neg c5]
  unfold adA
  rw [e]
theorem cT_0' {f g : Nat → Int} {x y : Int} {n t c : Nat} (hc : c < 17) : cT (fun j => if j = 0 then y else if j = 3 + 17 * n + 16 then x else g j) t c = if t = n ∧ c = 16 then x else cT g t c := by
  show (if 3 + 17 * t + c = 0 then y else if 3 + 17 * t + c = 3 + 17 * n + 16 then x else g (3 + 17 * t + c)) = _
  rw [if_neg (by omega)]
  by_cases h : t = n ∧ c = 16
  · rw [if_pos h, if_pos (by omega)]
  · rw [if_neg h, if_neg (by omega)]
    rfl
theorem adC_of {f g p : Nat → Int} {q a r w x : Int} {n : Nat} (hf : WfC f) (hn : f 0 = n) (hn9 : n ≤ 9) (hq : 0 ≤ q ∧ q ≤ 3) (ha : 0 ≤ a ∧ a ≤ 2) (hr : 0 ≤ r ∧ r ≤ 3) (hg : GwF w p) (hi : adI f n q a r w p g w.toNat 0) (hx : 0 ≤ x ∧ x < 262144) (hal : ∀ v : Int, 0 ≤ v ∧ v < 216 → (alF x v = true ↔ hoN p v w.toNat)) :
    autC (fun j => if j = 0 then (n : Int) + 1 else if j = 3 + 17 * n + 16 then x else g j) = adA (autC f) q a r w p ∧ WfC (fun j => if j = 0 then (n : Int) + 1 else if j = 3 + 17 * n + 16 then x else g j) := by
  obtain ⟨i1, i2, i3, i4⟩ := hi
  have hw := hg.1
  have e : autC (fun j => if j = 0 then (n : Int) + 1 else if j = 3 + 17 * n + 16 then x else g j) = adA (autC f) q a r w p := by
    have e1 : autC (fun j => if j = 0 then (n : Int) + 1 else if j = 3 + 17 * n + 16 then x else g j) = abA ((n : Int) + 1) (f 1) (f 2) (cT (fun j => if j = 0 then (n : Int) + 1 else if j = 3 + 17 * n + 16 then x else g j)) := by
      have k0 : (fun j => if j = 0 then (n : Int) + 1 else if j = 3 + 17 * n + 16 then x else g j) 0 = (n : Int) + 1 := if_pos rfl
      have k1 : (fun j => if j = 0 then (n : Int) + 1 else if j = 3 + 17 * n + 16 then x else g j) 1 = f 1 := by
        show (if (1 : Nat) = 0 then (n : Int) + 1 else if 1 = 3 + 17 * n + 16 then x else g 1) = f 1
        rw [if_neg (by omega), if_neg (by omega), i1 1 (by decide)]
      have k2 : (fun j => if j = 0 then (n : Int) + 1 else if j = 3 + 17 * n + 16 then x else g j) 2 = f 2 := by
        show (if (2 : Nat) = 0 then (n : Int) + 1 else if 2 = 3 + 17 * n + 16 then x else g 2) = f 2
        rw [if_neg (by omega), if_neg (by omega), i1 2 (by decide)]
      unfold autC
      rw [k0, k1, k2]
    have e2 : autC f = abA n (f 1) (f 2) (cT f) := by rw [← hn]; rfl
    rw [e1, e2]
    refine adA_of n rfl hw.2 (fun t ht => (autC_w hf (by rw [hn]; exact ht)).2.2.2.1.2) (fun t c ht hc => ?_) ?_ (fun k c hc hk => ?_)
    · rw [cT_0' (f := f) (by omega), if_neg (by omega)]
      exact i2 t c (by omega) (by omega)
    · rw [cT_0' (f := f) (by omega), cT_0' (f := f) (by omega), cT_0' (f := f) (by omega), cT_0' (f := f) (by omega), if_neg (by omega), if_neg (by omega), if_neg (by omega), if_neg (by omega)]
      exact i3
    · rw [cT_0' (f := f) (by omega), if_neg (by omega)]
      exact i4 k c hc (Or.inl (by omega))
  refine ⟨e, by rw [e]; exact adA_w hf.1 (by show f 0 ≤ 9; omega) hq ha hr hg, fun t ht => ?_⟩
  have ht' : (t : Int) < n + 1 := ht
  rw [cT_0' (f := f) (by omega)]
  by_cases et : t = n
  · subst et
    rw [if_pos ⟨rfl, rfl⟩]
    refine ⟨hx, fun v hv => ?_⟩
    rw [hal v (by omega), blF_iff, cT_0' (f := f) (by omega), if_neg (by omega), i3.2.2.2]
    unfold hoN hoK
    refine forall_congr' fun j => forall_congr' fun hj => ?_
    rw [cT_0' (f := f) (by omega), if_neg (by omega), cT_0' (f := f) (by omega), if_neg (by omega), cT_0' (f := f) (by omega), if_neg (by omega)]
    have j0 := i4 j 0 (by decide) (Or.inl hj)
    have j1 := i4 j 1 (by decide) (Or.inl hj)
    have j2 := i4 j 2 (by decide) (Or.inl hj)
    rw [show 4 + 3 * j + 1 = 5 + 3 * j by omega] at j1
    rw [show 4 + 3 * j + 2 = 6 + 3 * j by omega] at j2
    rw [Nat.add_zero, Nat.add_zero] at j0
    rw [j0, j1, j2]
  · rw [if_neg (by omega), i2 t 16 (by omega) (by decide)]
    obtain ⟨b1, b2⟩ := hf.2 t (by omega)
    refine ⟨b1, fun v hv => ?_⟩
    rw [b2 v hv]
    have en : nrT (cT (fun j => if j = 0 then (n : Int) + 1 else if j = 3 + 17 * n + 16 then x else g j) t) = nrT (cT f t) := nrT_ext (autC_w hf (by omega)).2.2.2.1.2 fun c hc => by
      rw [cT_0' (f := f) (by omega), if_neg (by omega)]
      exact i2 t c (by omega) (by omega)
    rw [← blF_nr (cT f t), ← en, blF_nr]
theorem rmC_of {f g : Nat → Int} {u : Nat} (hf : WfC f) (hu : (u : Int) < f 0) (h0 : g 0 = f 0 - 1 ∧ g 1 = f 1 ∧ g 2 = f 2) (h : ∀ t' c' : Nat, (t' : Int) + 1 < f 0 → c' < 17 → cT g t' c' = if u ≤ t' then cT f (t' + 1) c' else cT f t' c') : autC g = rmA (autC f) u ∧ WfC g := by
  have e : autC g = rmA (autC f) u := by
    unfold autC
    rw [h0.1, h0.2.1, h0.2.2]
    exact rmA_of (fun t ht => (autC_w hf ht).2.2.2.1.2) (fun t c ht hc => h t c ht (by omega))
  refine ⟨e, by rw [e]; exact rmA_w hf.1 hu, fun t ht => ?_⟩
  rw [h0.1] at ht
  have hh := fun c hc => h t c (by omega) hc
  by_cases q : u ≤ t
  · simp only [if_pos q] at hh
    rw [hh 16 (by decide)]
    obtain ⟨b1, b2⟩ := hf.2 (t + 1) (by omega)
    refine ⟨b1, fun v hv => ?_⟩
    rw [b2 v hv]
    have en : nrT (cT g t) = nrT (cT f (t + 1)) := nrT_ext (autC_w hf (by omega)).2.2.2.1.2 fun c hc => hh c (by omega)
    rw [← blF_nr (cT f (t + 1)), ← en, blF_nr]
  · simp only [if_neg q] at hh
    rw [hh 16 (by decide)]
    obtain ⟨b1, b2⟩ := hf.2 t (by omega)
    refine ⟨b1, fun v hv => ?_⟩
    rw [b2 v hv]
    have en : nrT (cT g t) = nrT (cT f t) := nrT_ext (autC_w hf (by omega)).2.2.2.1.2 fun c hc => hh c (by omega)
    rw [← blF_nr (cT f t), ← en, blF_nr]
theorem inC_of {f g : Nat → Int} {v : Int} (hf : WfC f) (hv : 0 ≤ v ∧ v ≤ 15) (h1 : g 1 = v) (h : ∀ j, j ≠ 1 → g j = f j) : autC g = inA (autC f) v ∧ WfC g := by
  have ec : cT g = cT f := by
    funext t c
    exact h _ (by omega)
  have e : autC g = inA (autC f) v := by
    unfold autC
    rw [h1, h 0 (by decide), h 2 (by decide), ec]
    rfl
  refine ⟨e, by rw [e]; exact inA_w hf.1 hv, fun t ht => ?_⟩
  rw [ec]
  exact hf.2 t (by rw [← h 0 (by decide)]; exact ht)
theorem fiC_of {f g : Nat → Int} {v : Int} (hf : WfC f) (hv : 0 ≤ v ∧ v ≤ 15) (h1 : g 2 = v) (h : ∀ j, j ≠ 2 → g j = f j) : autC g = fiA (autC f) v ∧ WfC g := by
  have ec : cT g = cT f := by
    funext t c
    exact h _ (by omega)
  have e : autC g = fiA (autC f) v := by
    unfold autC
    rw [h1, h 0 (by decide), h 1 (by decide), ec]
    rfl
  refine ⟨e, by rw [e]; exact fiA_w hf.1 hv, fun t ht => ?_⟩
  rw [ec]
  exact hf.2 t (by rw [← h 0 (by decide)]; exact ht)
theorem clC_of {g : Nat → Int} (h0 : g 0 = 0) (h1 : g 1 = 1) (h2 : g 2 = 0) : autC g = clA ∧ WfC g := by
  have e : autC g = clA := by
    unfold autC abA clA
    rw [h0, h1, h2]
    refine congrArg (fun x : Nat → Nat → Int => ((0 : Int), (1 : Int), (0 : Int), x)) ?_
    funext t
    rw [if_neg (by omega)]
  exact ⟨e, by rw [e]; exact clA_w, fun t ht => by rw [h0] at ht; omega⟩
/-- a slot's row; one more change kept; the powersets stale -/
def rwC (s : Int) : Nat := if s = 0 then 2 else 4
def hiF (z : pvM) : Prop := (0 ≤ z.1 36 2 ∧ z.1 36 2 ≤ 7) ∧ 0 ≤ z.1 36 3 ∧ z.1 36 3 ≤ 8
def reF (z z' : pvM) : Prop := (∀ j, j ≠ 2 → j ≠ 3 → z'.1 36 j = z.1 36 j) ∧ z'.1 36 2 = (z.1 36 2 + 1) % 8 ∧ z'.1 36 3 = (if z.1 36 3 = 8 then 8 else z.1 36 3 + 1) ∧
  (∀ k : Nat, k < 173 → z'.1 37 (346 * (z.1 36 2).toNat + k) = z.1 2 k) ∧ (∀ k : Nat, k < 173 → z'.1 37 (346 * (z.1 36 2).toNat + 173 + k) = z.1 4 k) ∧ (∀ k : Nat, k < 346 * (z.1 36 2).toNat ∨ 346 * (z.1 36 2).toNat + 346 ≤ k → z'.1 37 k = z.1 37 k)
def stF (z z' : pvM) : Prop := (∀ j, j ≠ 6 → z'.1 5 j = z.1 5 j) ∧ (∀ j, j ≠ 6 → z'.1 9 j = z.1 9 j) ∧ z'.1 5 6 = 0 ∧ z'.1 9 6 = 0
theorem reF_m {z z1 z2 : pvM} (h : reF z z1) (h3 : z2.1 36 = z1.1 36) (h4 : z2.1 37 = z1.1 37) : reF z z2 := by
  unfold reF
  rw [h3, h4]
  exact h
theorem reF_b {z z0 z1 : pvM} (h : reF z0 z1) (h3 : z0.1 36 = z.1 36) (h4 : z0.1 37 = z.1 37) (h5 : z0.1 2 = z.1 2) (h6 : z0.1 4 = z.1 4) : reF z z1 := by
  unfold reF at h ⊢
  rw [h3, h4, h5, h6] at h
  exact h
theorem stF_m {z z1 z2 : pvM} (h : stF z z1) (h3 : z2.1 5 = z1.1 5) (h4 : z2.1 9 = z1.1 9) : stF z z2 := by
  unfold stF
  rw [h3, h4]
  exact h
theorem stF_b {z z0 z1 : pvM} (h : stF z0 z1) (h3 : z0.1 5 = z.1 5) (h4 : z0.1 9 = z.1 9) : stF z z1 := by
  unfold stF at h ⊢
  rw [h3, h4] at h
  exact h
def C_X9_beginChange : pvC
  | [.inr (.inr (.inl id))], z, Q => id = 0 ∧ hiF z ∧ ∀ z' : pvM, frF [5, 9, 36, 37] [] z z' → reF z z' → stF z z' → Q (.inl none) z'
  | _, _, _ => False
def bX9_beginChange : Nat → List (Instr × Nat)
  | 0 => [(.aload_n 0, 1), (.getfield 70, 3), (.aload_n 0, 1), (.getfield 10, 3), (.aload_n 0, 1), (.getfield 16, 3), (.invokevirtual 300, 3), (.aload_n 0, 1), (.invokevirtual 279, 3), (.return_, 1)]
  | _ => []
def uX9_beginChange : Nat → Option (List Bool)
  | _ => none
def aX9_beginChange : pvCa
  | 279 => some (1, false, 8, 0, C_X9_markStale)
  | 300 => some (3, false, 2, 0, C_X2_remember)
  | _ => none
theorem bX9_beginChange_0 : bX9_beginChange 0 = [(.aload_n 0, 1), (.getfield 70, 3), (.aload_n 0, 1), (.getfield 10, 3), (.aload_n 0, 1), (.getfield 16, 3), (.invokevirtual 300, 3), (.aload_n 0, 1), (.invokevirtual 279, 3), (.return_, 1)] := rfl
theorem uX9_beginChange_0 : uX9_beginChange 0 = none := rfl
theorem aX9_beginChange_279 : aX9_beginChange 279 = some (1, false, 8, 0, C_X9_markStale) := rfl
theorem aX9_beginChange_300 : aX9_beginChange 300 = some (3, false, 2, 0, C_X2_remember) := rfl
set_option maxRecDepth 100000 in
set_option maxHeartbeats 4000000 in
theorem okX9_beginChange : pvOkM fX9 aX9_beginChange kX9 eX9 none bX9_beginChange uX9_beginChange 1 C_X9_beginChange := by
  intro Q SW hc as z h hS hz
  unfold C_X9_beginChange at h
  split at h
  · rename_i id
    obtain ⟨rfl, hh, h2⟩ := h
    have hh1 := hh.1
    have hh2 := hh.2
    refine ⟨Nat.le_of_ble_eq_true rfl, hc 20 _ _ _ fun _ _ => ?_⟩
    clear hc hS hz
    simp only [pvSt1]
    simp only [C_X2_remember, C_X9_markStale, pvE_aload_n0, pvLA_s, pvLd, pvE_getfield, pvGf_0, pvGf_1, pvGf_2, fX9_70, pvSh_0, pvSh_1, pvSh_2, pvSh_3, pvSh_4, pvSh_5, pvSh_6, pvSh_7, pvSh_8, pvSh_9, pvSh_10, pvSh_11, pvSh_12, pvSh_13, pvSh_14, pvSh_15, pvSh_16, pvSh_17, pvSh_18, pvSh_19, pvSh_20, pvSh_21, pvSh_22, pvSh_23, pvSh_24, pvSh_25, pvSh_26, pvSh_27, pvSh_28, pvSh_29, pvSh_30, pvSh_31, pvSh_32, pvSh_33, pvSh_34, pvSh_35, pvSh_36, pvSh_37, pvSh_38, pvRf_0_0, pvRf_0_1, pvRf_0_2, pvRf_0_3, pvRf_0_4, pvRf_0_5, pvRf_0_6, pvRf_0_7, pvRf_0_8, pvRf_0_9, pvRf_0_10, pvRf_1_0, pvRf_3_0, pvRf_5_0, pvRf_5_1, pvRf_5_2, pvRf_9_0, pvRf_9_1, pvRf_9_2, pvRf_13_0, pvRf_13_1, pvRf_13_2, pvRf_17_0, pvRf_17_2, pvRf_20_0, pvRf_20_1, pvRf_20_2, pvRf_24_0, pvRf_24_1, pvRf_24_2, pvRf_28_0, pvRf_28_1, pvRf_28_2, pvRf_28_3, pvRf_33_0, pvRf_33_1, pvRf_36_0, pvRf_36_1, fX9_10, fX9_16, pvE_invokevirtual, pvC1_s, pvC2_s, pvAf_v, pvAf_x, pvPop, pvCs, pvCat, pvPush, aX9_beginChange_300, aX9_beginChange_279, pvE_return, bX9_beginChange_0, uX9_beginChange_0, pvRtG, pvRecv_r, pvUp_nl, pvUp_same, pvUp_ap, pvSt_ap, pvX_c, pvX_ms, pvX_mn, pvE_nil, pvEn_i, pvEn_r, pvEn_l, pvEn_0, pvEn_s, pvRt, pvRv, pvTh, pvKc, pvGo, pvTgt, Int.toNat_natCast, false_and, and_false, true_and, and_true, if_true, if_false, reduceIte, reduceCtorEq, forall_const, false_or, or_false, true_or, or_true, ne_eq, not_true_eq_false, not_false_eq_true, implies_true, false_implies, Nat.reduceAdd, Nat.reduceSub, Nat.reduceMul, Nat.reduceEqDiff, Nat.reduceLT, Nat.reduceLeDiff, Int.reduceAdd, Int.reduceSub, Int.reduceMul, Int.reduceNeg, Int.reduceToNat, Int.reduceLE, Int.reduceLT, Int.reduceEq, Int.reduceNe, and_self]
    (repeat' (first | with_reducible apply And.intro | intro _))
    all_goals first
      | omega
      | skip
    all_goals
      rename_i z1 f1 k1 e2 e3 o1 o2 o3
      have g5 := f1.1 5 (by decide)
      have g9 := f1.1 9 (by decide)
      refine h2 _ (frF_u (frF_u (frF_t frF_0 f1 (by decide) (by decide)) (by decide)) (by decide)) (reF_m (z1 := z1) ⟨k1, e2, e3, o1, o2, o3⟩ ?_ ?_) ⟨fun j hj => ?_, fun j hj => ?_, ?_, ?_⟩
      · show pvUp (pvUp z1.1 5 6 0) 9 6 0 36 = _
        rw [pvUp_ne (by decide), pvUp_ne (by decide)]
      · show pvUp (pvUp z1.1 5 6 0) 9 6 0 37 = _
        rw [pvUp_ne (by decide), pvUp_ne (by decide)]
      all_goals simp only [pvUp_ap, Nat.reduceEqDiff, false_and, true_and, and_self, if_true, if_false, reduceIte]
      · rw [if_neg hj, g5]
      · rw [if_neg hj, g9]
  · exact h.elim
def C_X9_withState : pvC
  | [.inl x, .inl q, .inl on], z, Q => ((0 ≤ x ∧ x ≤ 15) ∧ (0 ≤ q ∧ q ≤ 3) ∧ (on = 0 ∨ on = 1)) ∧ Q (.inl (some (vI (msF x q on)))) z
  | _, _, _ => False
def bX9_withState : Nat → List (Instr × Nat)
  | 0 => [(.iload_n 2, 1), (.ifCond .eq 11, 3), (.iload_n 0, 1), (.iconst 1, 1), (.iload_n 1, 1), (.ishl, 1), (.ior, 1), (.goto 10, 3)]
  | 12 => [(.iload_n 0, 1), (.iconst 1, 1), (.iload_n 1, 1), (.ishl, 1), (.iconst (-1), 1), (.ixor, 1), (.iand, 1)]
  | 19 => [(.ireturn, 1)]
  | _ => []
def uX9_withState : Nat → Option (List Bool)
  | _ => none
def aX9_withState : pvCa
  | _ => none
theorem bX9_withState_0 : bX9_withState 0 = [(.iload_n 2, 1), (.ifCond .eq 11, 3), (.iload_n 0, 1), (.iconst 1, 1), (.iload_n 1, 1), (.ishl, 1), (.ior, 1), (.goto 10, 3)] := rfl
theorem uX9_withState_0 : uX9_withState 0 = none := rfl
theorem bX9_withState_12 : bX9_withState 12 = [(.iload_n 0, 1), (.iconst 1, 1), (.iload_n 1, 1), (.ishl, 1), (.iconst (-1), 1), (.ixor, 1), (.iand, 1)] := rfl
theorem uX9_withState_12 : uX9_withState 12 = none := rfl
theorem bX9_withState_19 : bX9_withState 19 = [(.ireturn, 1)] := rfl
theorem uX9_withState_19 : uX9_withState 19 = none := rfl
set_option maxRecDepth 100000 in
set_option maxHeartbeats 4000000 in
theorem okX9_withState : pvOkM fX9 aX9_withState kX9 eX9 (some .int) bX9_withState uX9_withState 3 C_X9_withState := by
  intro Q SW hc as z h hS hz
  unfold C_X9_withState at h
  split at h
  · rename_i x q on
    obtain ⟨⟨hx, hq, ho⟩, h2⟩ := h
    refine ⟨Nat.le_of_ble_eq_true rfl, hc 20 _ _ _ fun _ _ => ?_⟩
    clear hc hS hz
    simp only [pvSt1]
    simp only [pvE_iload_n2, pvLI_s, pvLd, pvE_if_eq, pvE_iload_n0, pvE_iconst, pvE_iload_n1, pvE_ishl, pvE_ior, pvE_goto, pvE_ixor, pvE_iand, pvE_ireturn, bX9_withState_0, uX9_withState_0, bX9_withState_12, uX9_withState_12, bX9_withState_19, uX9_withState_19, pvRtG, pvRecv_r, pvUp_nl, pvUp_same, pvUp_ap, pvSt_ap, pvX_c, pvX_ms, pvX_mn, pvE_nil, pvEn_i, pvEn_r, pvEn_l, pvEn_0, pvEn_s, pvRt, pvRv, pvTh, pvKc, pvGo, pvTgt, Int.toNat_natCast, false_and, and_false, true_and, and_true, if_true, if_false, reduceIte, reduceCtorEq, forall_const, false_or, or_false, true_or, or_true, ne_eq, not_true_eq_false, not_false_eq_true, implies_true, false_implies, Nat.reduceAdd, Nat.reduceSub, Nat.reduceMul, Nat.reduceEqDiff, Nat.reduceLT, Nat.reduceLeDiff, Int.reduceAdd, Int.reduceSub, Int.reduceMul, Int.reduceNeg, Int.reduceToNat, Int.reduceLE, Int.reduceLT, Int.reduceEq, Int.reduceNe, and_self]
    unfold msF at h2
    (repeat' (first | with_reducible apply And.intro | intro _))
    all_goals first
      | omega
      | (rw [if_pos (by omega)] at h2; exact h2)
      | (rw [if_neg (by omega)] at h2; exact h2)
  · exact h.elim
def C_X9_addTransition : pvC
  | [.inr (.inr (.inl id)), .inl s, .inl q, .inl a, .inl r], z, Q => id = 0 ∧ (hiF z ∧ ((0 ≤ z.1 17 1 ∧ z.1 17 1 ≤ 30) ∧ ∀ k : Nat, (k : Int) < z.1 17 1 → 0 ≤ z.1 18 k ∧ z.1 18 k ≤ 126) ∧ WfC (z.1 2) ∧ WfC (z.1 4)) ∧
      (¬ ((0 ≤ s ∧ s ≤ 1) ∧ (0 ≤ q ∧ q ≤ 3) ∧ (0 ≤ a ∧ a ≤ 2) ∧ 0 ≤ r ∧ r ≤ 3) → Q (.inr 0) z) ∧
      ((0 ≤ s ∧ s ≤ 1) ∧ (0 ≤ q ∧ q ≤ 3) ∧ (0 ≤ a ∧ a ≤ 2) ∧ (0 ≤ r ∧ r ≤ 3) → ∀ z' : pvM, z'.1 17 1 = 0 → z'.1 17 4 = (rtF (z.1 18) (z.1 17 1)).1 →
        (0 ≤ (rtF (z.1 18) (z.1 17 1)).1 → frF [17, 19] [] z z' → Q (.inr 1) z') ∧
        ((rtF (z.1 18) (z.1 17 1)).1 < 0 → (autC (z.1 (rwC s))).1 = 10 → frF [17, 19] [] z z' → Q (.inr 2) z') ∧
        ((rtF (z.1 18) (z.1 17 1)).1 < 0 → (autC (z.1 (rwC s))).1 ≠ 10 → frF [2, 4, 5, 9, 17, 19, 36, 37] [] z z' → reF z z' → stF z z' → autC (z'.1 (rwC s)) = adA (autC (z.1 (rwC s))) q a r (rtF (z.1 18) (z.1 17 1)).2.1 (rtF (z.1 18) (z.1 17 1)).2.2 → WfC (z'.1 (rwC s)) → z'.1 (rwC (1 - s)) = z.1 (rwC (1 - s)) → Q (.inl (some (vI (autC (z.1 (rwC s))).1))) z'))
  | _, _, _ => False
def bX9_addTransition : Nat → List (Instr × Nat)
  | 0 => [(.iload_n 1, 1), (.iconst 2, 1), (.invokestatic 97, 3), (.iload_n 2, 1), (.iconst 4, 1), (.invokestatic 97, 3), (.iload_n 3, 1), (.iconst 3, 1), (.invokestatic 97, 3), (.iload 4, 2), (.iconst 4, 1), (.invokestatic 97, 3), (.aload_n 0, 1), (.getfield 35, 3), (.invokevirtual 101, 3)]
  | 28 => [(.aload_n 0, 1), (.getfield 35, 3), (.getfield 93, 3), (.iconst (-1), 1), (.if_icmp .ne 7, 3), (.iconst 1, 1), (.goto 4, 3)]
  | 43 => [(.iconst 0, 1)]
  | 44 => [(.invokestatic 78, 3), (.aload_n 0, 1), (.iload_n 1, 1), (.invokevirtual 104, 3), (.astore 5, 2), (.aload 5, 2), (.invokevirtual 108, 3), (.bipush 10, 2), (.if_icmp .ge 7, 3), (.iconst 1, 1), (.goto 4, 3)]
  | 68 => [(.iconst 0, 1)]
  | 69 => [(.invokestatic 86, 3), (.aload_n 0, 1), (.invokevirtual 112, 3)]
  | 76 => [(.aload 5, 2), (.iload_n 2, 1), (.iload_n 3, 1), (.iload 4, 2), (.aload_n 0, 1), (.getfield 35, 3), (.invokevirtual 115, 3), (.ireturn, 1)]
  | _ => []
def uX9_addTransition : Nat → Option (List Bool)
  | 28 => some [true, true, true, true, true, false]
  | 76 => some [true, false, true, true, true, true]
  | _ => none
def aX9_addTransition : pvCa
  | 78 => some (1, true, 0, 0, C_X9_requireArgument)
  | 86 => some (1, true, 0, 0, C_X9_requireState)
  | 97 => some (2, true, 0, 0, C_X9_requireIndex)
  | 101 => some (1, false, 1, 0, C_X1_read)
  | 104 => some (2, false, 8, 0, C_X9_automaton)
  | 108 => some (1, false, 0, 0, C_X0_size)
  | 112 => some (1, false, 8, 0, C_X9_beginChange)
  | 115 => some (5, false, 0, 0, C_X0_add)
  | _ => none
theorem bX9_addTransition_0 : bX9_addTransition 0 = [(.iload_n 1, 1), (.iconst 2, 1), (.invokestatic 97, 3), (.iload_n 2, 1), (.iconst 4, 1), (.invokestatic 97, 3), (.iload_n 3, 1), (.iconst 3, 1), (.invokestatic 97, 3), (.iload 4, 2), (.iconst 4, 1), (.invokestatic 97, 3), (.aload_n 0, 1), (.getfield 35, 3), (.invokevirtual 101, 3)] := rfl
theorem uX9_addTransition_0 : uX9_addTransition 0 = none := rfl
theorem bX9_addTransition_28 : bX9_addTransition 28 = [(.aload_n 0, 1), (.getfield 35, 3), (.getfield 93, 3), (.iconst (-1), 1), (.if_icmp .ne 7, 3), (.iconst 1, 1), (.goto 4, 3)] := rfl
theorem uX9_addTransition_28 : uX9_addTransition 28 = some [true, true, true, true, true, false] := rfl
theorem bX9_addTransition_43 : bX9_addTransition 43 = [(.iconst 0, 1)] := rfl
theorem uX9_addTransition_43 : uX9_addTransition 43 = none := rfl
theorem bX9_addTransition_44 : bX9_addTransition 44 = [(.invokestatic 78, 3), (.aload_n 0, 1), (.iload_n 1, 1), (.invokevirtual 104, 3), (.astore 5, 2), (.aload 5, 2), (.invokevirtual 108, 3), (.bipush 10, 2), (.if_icmp .ge 7, 3), (.iconst 1, 1), (.goto 4, 3)] := rfl
theorem uX9_addTransition_44 : uX9_addTransition 44 = none := rfl
theorem bX9_addTransition_68 : bX9_addTransition 68 = [(.iconst 0, 1)] := rfl
theorem uX9_addTransition_68 : uX9_addTransition 68 = none := rfl
theorem bX9_addTransition_69 : bX9_addTransition 69 = [(.invokestatic 86, 3), (.aload_n 0, 1), (.invokevirtual 112, 3)] := rfl
theorem uX9_addTransition_69 : uX9_addTransition 69 = none := rfl
theorem bX9_addTransition_76 : bX9_addTransition 76 = [(.aload 5, 2), (.iload_n 2, 1), (.iload_n 3, 1), (.iload 4, 2), (.aload_n 0, 1), (.getfield 35, 3), (.invokevirtual 115, 3), (.ireturn, 1)] := rfl
theorem uX9_addTransition_76 : uX9_addTransition 76 = some [true, false, true, true, true, true] := rfl
theorem aX9_addTransition_78 : aX9_addTransition 78 = some (1, true, 0, 0, C_X9_requireArgument) := rfl
theorem aX9_addTransition_86 : aX9_addTransition 86 = some (1, true, 0, 0, C_X9_requireState) := rfl
theorem aX9_addTransition_97 : aX9_addTransition 97 = some (2, true, 0, 0, C_X9_requireIndex) := rfl
theorem aX9_addTransition_101 : aX9_addTransition 101 = some (1, false, 1, 0, C_X1_read) := rfl
theorem aX9_addTransition_104 : aX9_addTransition 104 = some (2, false, 8, 0, C_X9_automaton) := rfl
theorem aX9_addTransition_108 : aX9_addTransition 108 = some (1, false, 0, 0, C_X0_size) := rfl
theorem aX9_addTransition_112 : aX9_addTransition 112 = some (1, false, 8, 0, C_X9_beginChange) := rfl
theorem aX9_addTransition_115 : aX9_addTransition 115 = some (5, false, 0, 0, C_X0_add) := rfl
set_option maxRecDepth 100000 in
set_option maxHeartbeats 4000000 in
theorem okX9_addTransition : pvOkM fX9 aX9_addTransition kX9 eX9 (some .int) bX9_addTransition uX9_addTransition 6 C_X9_addTransition := by
  intro Q SW hc as z h hS hz
  unfold C_X9_addTransition at h
  split at h
  · rename_i id s q a r
    obtain ⟨rfl, ⟨hh, ⟨hl, hx⟩, w2, w4⟩, h1, h2⟩ := h
    refine ⟨Nat.le_of_ble_eq_true rfl, ?_⟩
    by_cases hv : (0 ≤ s ∧ s ≤ 1) ∧ (0 ≤ q ∧ q ≤ 3) ∧ (0 ≤ a ∧ a ≤ 2) ∧ 0 ≤ r ∧ r ≤ 3
    · have h3 := h2 hv
      clear h1 h2
      obtain ⟨f, cnt, G, er⟩ : ∃ f cnt G, rtF (z.1 18) (z.1 17 1) = (f, cnt, G) := ⟨_, _, _, rfl⟩
      have hg := rtF_w (z.1 18) (z.1 17 1)
      have hf0 := rtF_g (z.1 18) (z.1 17 1)
      rw [er] at hg hf0 h3
      simp only at hg hf0 h3
      have hcn := hg.1
      have n2 : 0 ≤ z.1 2 0 ∧ z.1 2 0 ≤ 10 := w2.1.1
      have n4 : 0 ≤ z.1 4 0 ∧ z.1 4 0 ≤ 10 := w4.1.1
      have p76 : ∀ z' : pvM, f < 0 → (autC (z.1 (rwC s))).1 ≠ 10 → frF [5, 9, 17, 19, 36, 37] [] z z' → z'.1 17 1 = 0 → z'.1 17 3 = cnt → z'.1 17 4 = f → (∀ j, j < 3 * cnt → z'.1 19 j = G j) → reF z z' → stF z z' →
          SW 76 [some (vR 0), none, some (vI q), some (vI a), some (vI r), some (vR (rwC s - 1))] z' := by
        intro z' hf9 hn9 f1 e1 e3 e4 o19 r1 s1
        have g2 := f1.1 2 (by decide)
        have g4 := f1.1 4 (by decide)
        have hg' : GwF (z'.1 17 3) (z'.1 19) := by
          rw [e3]
          exact ⟨hg.1, fun k hk => by rw [o19 _ (by omega), o19 _ (by omega), o19 _ (by omega)]; exact hg.2 k hk⟩
        refine hc 20 _ _ _ fun _ _ => ?_
        clear hc hS hz
        simp only [pvSt1]
        simp only [C_X0_add, pvE_iload_n1, pvLI_s, pvLd, pvE_iconst, pvE_invokestatic (h0 := eX9_97), pvC1_s, pvC2_s, pvAf_v, pvAf_x, pvPop, pvCs, pvCat, pvPush, aX9_addTransition_97, pvE_iload_n2, pvE_iload_n3, pvE_iload, pvE_aload_n0, pvLA_s, pvE_getfield, pvGf_0, pvGf_1, pvGf_2, fX9_35, pvSh_0, pvSh_1, pvSh_2, pvSh_3, pvSh_4, pvSh_5, pvSh_6, pvSh_7, pvSh_8, pvSh_9, pvSh_10, pvSh_11, pvSh_12, pvSh_13, pvSh_14, pvSh_15, pvSh_16, pvSh_17, pvSh_18, pvSh_19, pvSh_20, pvSh_21, pvSh_22, pvSh_23, pvSh_24, pvSh_25, pvSh_26, pvSh_27, pvSh_28, pvSh_29, pvSh_30, pvSh_31, pvSh_32, pvSh_33, pvSh_34, pvSh_35, pvSh_36, pvSh_37, pvSh_38, pvRf_0_0, pvRf_0_1, pvRf_0_2, pvRf_0_3, pvRf_0_4, pvRf_0_5, pvRf_0_6, pvRf_0_7, pvRf_0_8, pvRf_0_9, pvRf_0_10, pvRf_1_0, pvRf_3_0, pvRf_5_0, pvRf_5_1, pvRf_5_2, pvRf_9_0, pvRf_9_1, pvRf_9_2, pvRf_13_0, pvRf_13_1, pvRf_13_2, pvRf_17_0, pvRf_17_2, pvRf_20_0, pvRf_20_1, pvRf_20_2, pvRf_24_0, pvRf_24_1, pvRf_24_2, pvRf_28_0, pvRf_28_1, pvRf_28_2, pvRf_28_3, pvRf_33_0, pvRf_33_1, pvRf_36_0, pvRf_36_1, pvE_invokevirtual, aX9_addTransition_101, fX9_93, pvE_icmp_ne, pvE_goto, pvE_invokestatic (h0 := eX9_78), aX9_addTransition_78, aX9_addTransition_104, pvE_astore, pvS1, List.length_cons, List.length_nil, pvClr_i, pvClr_r, pvClr_l, pvClr_d, pvClr_f, pvClr_n, pvE_aload, aX9_addTransition_108, pvE_bipush, pvE_icmp_ge, pvE_invokestatic (h0 := eX9_86), aX9_addTransition_86, aX9_addTransition_112, aX9_addTransition_115, pvE_ireturn, bX9_addTransition_0, uX9_addTransition_0, bX9_addTransition_28, uX9_addTransition_28, bX9_addTransition_43, uX9_addTransition_43, bX9_addTransition_44, uX9_addTransition_44, bX9_addTransition_68, uX9_addTransition_68, bX9_addTransition_69, uX9_addTransition_69, bX9_addTransition_76, uX9_addTransition_76, pvMk_t, pvMk_f, pvMk_n, pvRtG, pvRecv_r, pvUp_nl, pvUp_same, pvUp_ap, pvSt_ap, pvX_c, pvX_ms, pvX_mn, pvE_nil, pvEn_i, pvEn_r, pvEn_l, pvEn_0, pvEn_s, pvRt, pvRv, pvTh, pvKc, pvGo, pvTgt, Int.toNat_natCast, false_and, and_false, true_and, and_true, if_true, if_false, reduceIte, reduceCtorEq, forall_const, false_or, or_false, true_or, or_true, ne_eq, not_true_eq_false, not_false_eq_true, implies_true, false_implies, Nat.reduceAdd, Nat.reduceSub, Nat.reduceMul, Nat.reduceEqDiff, Nat.reduceLT, Nat.reduceLeDiff, Int.reduceAdd, Int.reduceSub, Int.reduceMul, Int.reduceNeg, Int.reduceToNat, Int.reduceLE, Int.reduceLT, Int.reduceEq, Int.reduceNe, and_self]
        rcases (show s = 0 ∨ s = 1 by omega) with rfl | rfl
        · have hn9' : z.1 2 0 ≠ 10 := hn9
          obtain ⟨n, en⟩ : ∃ n : Nat, z.1 2 0 = n := ⟨(z.1 2 0).toNat, by omega⟩
          rw [show rwC 0 - 1 + 1 = 2 from rfl, show rwC 0 - 1 = 1 from rfl, g2, en]
          refine ⟨by decide, by decide, by decide, ⟨by omega, hg'⟩, fun g x hi hx hal => ?_⟩
          rw [Int.toNat_natCast] at hi ⊢
          obtain ⟨a1, a2⟩ := adC_of w2 en (by omega) hv.2.1 hv.2.2.1 hv.2.2.2 hg' hi hx hal
          rw [e3, adA_p (G := G) (fun j hj => o19 j (by omega))] at a1
          have q9 := (h3 (pvSt z'.1 2 (fun j => if j = 0 then (n : Int) + 1 else if j = 3 + 17 * n + 16 then x else g j), z'.2) (by simp only [pvUp_nl, pvSt_ne, pvSt_eq, ne_eq, Nat.reduceEqDiff, not_false_eq_true]; exact e1) (by simp only [pvUp_nl, pvSt_ne, pvSt_eq, ne_eq, Nat.reduceEqDiff, not_false_eq_true]; exact e4)).2.2 hf9 hn9 (frF_s (frF_t frF_0 f1 (by decide) (by decide)) (by decide))
            (reF_m r1 (by simp only [pvUp_nl, pvSt_ne, pvSt_eq, ne_eq, Nat.reduceEqDiff, not_false_eq_true]) (by simp only [pvUp_nl, pvSt_ne, pvSt_eq, ne_eq, Nat.reduceEqDiff, not_false_eq_true])) (stF_m s1 (by simp only [pvUp_nl, pvSt_ne, pvSt_eq, ne_eq, Nat.reduceEqDiff, not_false_eq_true]) (by simp only [pvUp_nl, pvSt_ne, pvSt_eq, ne_eq, Nat.reduceEqDiff, not_false_eq_true]))
            (by simp only [pvUp_nl, pvSt_ne, pvSt_eq, ne_eq, Nat.reduceEqDiff, not_false_eq_true]; exact a1) (by simp only [pvUp_nl, pvSt_ne, pvSt_eq, ne_eq, Nat.reduceEqDiff, not_false_eq_true]; exact a2) (by simp only [pvUp_nl, pvSt_ne, pvSt_eq, ne_eq, Nat.reduceEqDiff, not_false_eq_true]; exact g4)
          rw [show (autC (z.1 (rwC 0))).1 = z.1 2 0 from rfl, en] at q9
          exact q9
        · have hn9' : z.1 4 0 ≠ 10 := hn9
          obtain ⟨n, en⟩ : ∃ n : Nat, z.1 4 0 = n := ⟨(z.1 4 0).toNat, by omega⟩
          rw [show rwC 1 - 1 + 1 = 4 from rfl, show rwC 1 - 1 = 3 from rfl, g4, en]
          refine ⟨by decide, by decide, by decide, ⟨by omega, hg'⟩, fun g x hi hx hal => ?_⟩
          rw [Int.toNat_natCast] at hi ⊢
          obtain ⟨a1, a2⟩ := adC_of w4 en (by omega) hv.2.1 hv.2.2.1 hv.2.2.2 hg' hi hx hal
          rw [e3, adA_p (G := G) (fun j hj => o19 j (by omega))] at a1
          have q9 := (h3 (pvSt z'.1 4 (fun j => if j = 0 then (n : Int) + 1 else if j = 3 + 17 * n + 16 then x else g j), z'.2) (by simp only [pvUp_nl, pvSt_ne, pvSt_eq, ne_eq, Nat.reduceEqDiff, not_false_eq_true]; exact e1) (by simp only [pvUp_nl, pvSt_ne, pvSt_eq, ne_eq, Nat.reduceEqDiff, not_false_eq_true]; exact e4)).2.2 hf9 hn9 (frF_s (frF_t frF_0 f1 (by decide) (by decide)) (by decide))
            (reF_m r1 (by simp only [pvUp_nl, pvSt_ne, pvSt_eq, ne_eq, Nat.reduceEqDiff, not_false_eq_true]) (by simp only [pvUp_nl, pvSt_ne, pvSt_eq, ne_eq, Nat.reduceEqDiff, not_false_eq_true])) (stF_m s1 (by simp only [pvUp_nl, pvSt_ne, pvSt_eq, ne_eq, Nat.reduceEqDiff, not_false_eq_true]) (by simp only [pvUp_nl, pvSt_ne, pvSt_eq, ne_eq, Nat.reduceEqDiff, not_false_eq_true]))
            (by simp only [pvUp_nl, pvSt_ne, pvSt_eq, ne_eq, Nat.reduceEqDiff, not_false_eq_true]; exact a1) (by simp only [pvUp_nl, pvSt_ne, pvSt_eq, ne_eq, Nat.reduceEqDiff, not_false_eq_true]; exact a2) (by simp only [pvUp_nl, pvSt_ne, pvSt_eq, ne_eq, Nat.reduceEqDiff, not_false_eq_true]; exact g2)
          rw [show (autC (z.1 (rwC 1))).1 = z.1 4 0 from rfl, en] at q9
          exact q9
      have p28 : ∀ z' : pvM, frF [17, 19] [] z z' → z'.1 17 1 = 0 → z'.1 17 3 = cnt → z'.1 17 4 = f → (∀ j, j < 3 * cnt → z'.1 19 j = G j) →
          SW 28 [some (vR 0), some (vI s), some (vI q), some (vI a), some (vI r), none] z' := by
        intro z' f1 e1 e3 e4 o19
        have g2 := f1.1 2 (by decide)
        have g4 := f1.1 4 (by decide)
        have hh' : hiF z' := by unfold hiF; rw [f1.1 36 (by decide)]; exact hh
        refine hc 20 _ _ _ fun _ _ => ?_
        clear hc hS hz
        simp only [pvSt1]
        simp only [C_X9_requireArgument, C_X9_requireState, C_X9_automaton, C_X0_size, C_X9_beginChange, e4, g2, g4, pvE_iload_n1, pvLI_s, pvLd, pvE_iconst, pvE_invokestatic (h0 := eX9_97), pvC1_s, pvC2_s, pvAf_v, pvAf_x, pvPop, pvCs, pvCat, pvPush, aX9_addTransition_97, pvE_iload_n2, pvE_iload_n3, pvE_iload, pvE_aload_n0, pvLA_s, pvE_getfield, pvGf_0, pvGf_1, pvGf_2, fX9_35, pvSh_0, pvSh_1, pvSh_2, pvSh_3, pvSh_4, pvSh_5, pvSh_6, pvSh_7, pvSh_8, pvSh_9, pvSh_10, pvSh_11, pvSh_12, pvSh_13, pvSh_14, pvSh_15, pvSh_16, pvSh_17, pvSh_18, pvSh_19, pvSh_20, pvSh_21, pvSh_22, pvSh_23, pvSh_24, pvSh_25, pvSh_26, pvSh_27, pvSh_28, pvSh_29, pvSh_30, pvSh_31, pvSh_32, pvSh_33, pvSh_34, pvSh_35, pvSh_36, pvSh_37, pvSh_38, pvRf_0_0, pvRf_0_1, pvRf_0_2, pvRf_0_3, pvRf_0_4, pvRf_0_5, pvRf_0_6, pvRf_0_7, pvRf_0_8, pvRf_0_9, pvRf_0_10, pvRf_1_0, pvRf_3_0, pvRf_5_0, pvRf_5_1, pvRf_5_2, pvRf_9_0, pvRf_9_1, pvRf_9_2, pvRf_13_0, pvRf_13_1, pvRf_13_2, pvRf_17_0, pvRf_17_2, pvRf_20_0, pvRf_20_1, pvRf_20_2, pvRf_24_0, pvRf_24_1, pvRf_24_2, pvRf_28_0, pvRf_28_1, pvRf_28_2, pvRf_28_3, pvRf_33_0, pvRf_33_1, pvRf_36_0, pvRf_36_1, pvE_invokevirtual, aX9_addTransition_101, fX9_93, pvE_icmp_ne, pvE_goto, pvE_invokestatic (h0 := eX9_78), aX9_addTransition_78, aX9_addTransition_104, pvE_astore, pvS1, List.length_cons, List.length_nil, pvClr_i, pvClr_r, pvClr_l, pvClr_d, pvClr_f, pvClr_n, pvE_aload, aX9_addTransition_108, pvE_bipush, pvE_icmp_ge, pvE_invokestatic (h0 := eX9_86), aX9_addTransition_86, aX9_addTransition_112, aX9_addTransition_115, pvE_ireturn, bX9_addTransition_0, uX9_addTransition_0, bX9_addTransition_28, uX9_addTransition_28, bX9_addTransition_43, uX9_addTransition_43, bX9_addTransition_44, uX9_addTransition_44, bX9_addTransition_68, uX9_addTransition_68, bX9_addTransition_69, uX9_addTransition_69, bX9_addTransition_76, uX9_addTransition_76, pvMk_t, pvMk_f, pvMk_n, pvRtG, pvRecv_r, pvUp_nl, pvUp_same, pvUp_ap, pvSt_ap, pvX_c, pvX_ms, pvX_mn, pvE_nil, pvEn_i, pvEn_r, pvEn_l, pvEn_0, pvEn_s, pvRt, pvRv, pvTh, pvKc, pvGo, pvTgt, Int.toNat_natCast, false_and, and_false, true_and, and_true, if_true, if_false, reduceIte, reduceCtorEq, forall_const, false_or, or_false, true_or, or_true, ne_eq, not_true_eq_false, not_false_eq_true, implies_true, false_implies, Nat.reduceAdd, Nat.reduceSub, Nat.reduceMul, Nat.reduceEqDiff, Nat.reduceLT, Nat.reduceLeDiff, Int.reduceAdd, Int.reduceSub, Int.reduceMul, Int.reduceNeg, Int.reduceToNat, Int.reduceLE, Int.reduceLT, Int.reduceEq, Int.reduceNe, and_self]
        rcases (show s = 0 ∨ s = 1 by omega) with rfl | rfl
        · (repeat' (first | with_reducible apply And.intro | intro _))
          all_goals first
            | omega
            | contradiction
            | exact hh'
            | (exact (h3 z' e1 e4).1 (by omega) f1)
            | (exact (h3 z' e1 e4).2.1 (by omega) (by show z.1 2 0 = 10; omega) f1)
            | skip
          all_goals
            rename_i z1 f2 r2 s2
            have t2 := reF_b r2 (f1.1 36 (by decide)) (f1.1 37 (by decide)) g2 g4
            have t3 := stF_b s2 (f1.1 5 (by decide)) (f1.1 9 (by decide))
            exact p76 z1 (by omega) (by show z.1 2 0 ≠ 10; omega) (frF_t (frF_t frF_0 f1 (by decide) (by decide)) f2 (by decide) (by decide)) (by rw [f2.1 17 (by decide)]; exact e1) (by rw [f2.1 17 (by decide)]; exact e3) (by rw [f2.1 17 (by decide)]; exact e4) (fun j hj => by rw [f2.1 19 (by decide)]; exact o19 j hj) t2 t3
        · (repeat' (first | with_reducible apply And.intro | intro _))
          all_goals first
            | omega
            | contradiction
            | exact hh'
            | (exact (h3 z' e1 e4).1 (by omega) f1)
            | (exact (h3 z' e1 e4).2.1 (by omega) (by show z.1 4 0 = 10; omega) f1)
            | skip
          all_goals
            rename_i z1 f2 r2 s2
            have t2 := reF_b r2 (f1.1 36 (by decide)) (f1.1 37 (by decide)) g2 g4
            have t3 := stF_b s2 (f1.1 5 (by decide)) (f1.1 9 (by decide))
            exact p76 z1 (by omega) (by show z.1 4 0 ≠ 10; omega) (frF_t (frF_t frF_0 f1 (by decide) (by decide)) f2 (by decide) (by decide)) (by rw [f2.1 17 (by decide)]; exact e1) (by rw [f2.1 17 (by decide)]; exact e3) (by rw [f2.1 17 (by decide)]; exact e4) (fun j hj => by rw [f2.1 19 (by decide)]; exact o19 j hj) t2 t3
      refine hc 20 _ _ _ fun _ _ => ?_
      clear hc hS hz
      simp only [pvSt1]
      simp only [C_X9_requireIndex, C_X1_read, er, pvE_iload_n1, pvLI_s, pvLd, pvE_iconst, pvE_invokestatic (h0 := eX9_97), pvC1_s, pvC2_s, pvAf_v, pvAf_x, pvPop, pvCs, pvCat, pvPush, aX9_addTransition_97, pvE_iload_n2, pvE_iload_n3, pvE_iload, pvE_aload_n0, pvLA_s, pvE_getfield, pvGf_0, pvGf_1, pvGf_2, fX9_35, pvSh_0, pvSh_1, pvSh_2, pvSh_3, pvSh_4, pvSh_5, pvSh_6, pvSh_7, pvSh_8, pvSh_9, pvSh_10, pvSh_11, pvSh_12, pvSh_13, pvSh_14, pvSh_15, pvSh_16, pvSh_17, pvSh_18, pvSh_19, pvSh_20, pvSh_21, pvSh_22, pvSh_23, pvSh_24, pvSh_25, pvSh_26, pvSh_27, pvSh_28, pvSh_29, pvSh_30, pvSh_31, pvSh_32, pvSh_33, pvSh_34, pvSh_35, pvSh_36, pvSh_37, pvSh_38, pvRf_0_0, pvRf_0_1, pvRf_0_2, pvRf_0_3, pvRf_0_4, pvRf_0_5, pvRf_0_6, pvRf_0_7, pvRf_0_8, pvRf_0_9, pvRf_0_10, pvRf_1_0, pvRf_3_0, pvRf_5_0, pvRf_5_1, pvRf_5_2, pvRf_9_0, pvRf_9_1, pvRf_9_2, pvRf_13_0, pvRf_13_1, pvRf_13_2, pvRf_17_0, pvRf_17_2, pvRf_20_0, pvRf_20_1, pvRf_20_2, pvRf_24_0, pvRf_24_1, pvRf_24_2, pvRf_28_0, pvRf_28_1, pvRf_28_2, pvRf_28_3, pvRf_33_0, pvRf_33_1, pvRf_36_0, pvRf_36_1, pvE_invokevirtual, aX9_addTransition_101, fX9_93, pvE_icmp_ne, pvE_goto, pvE_invokestatic (h0 := eX9_78), aX9_addTransition_78, aX9_addTransition_104, pvE_astore, pvS1, List.length_cons, List.length_nil, pvClr_i, pvClr_r, pvClr_l, pvClr_d, pvClr_f, pvClr_n, pvE_aload, aX9_addTransition_108, pvE_bipush, pvE_icmp_ge, pvE_invokestatic (h0 := eX9_86), aX9_addTransition_86, aX9_addTransition_112, aX9_addTransition_115, pvE_ireturn, bX9_addTransition_0, uX9_addTransition_0, bX9_addTransition_28, uX9_addTransition_28, bX9_addTransition_43, uX9_addTransition_43, bX9_addTransition_44, uX9_addTransition_44, bX9_addTransition_68, uX9_addTransition_68, bX9_addTransition_69, uX9_addTransition_69, bX9_addTransition_76, uX9_addTransition_76, pvMk_t, pvMk_f, pvMk_n, pvRtG, pvRecv_r, pvUp_nl, pvUp_same, pvUp_ap, pvSt_ap, pvX_c, pvX_ms, pvX_mn, pvE_nil, pvEn_i, pvEn_r, pvEn_l, pvEn_0, pvEn_s, pvRt, pvRv, pvTh, pvKc, pvGo, pvTgt, Int.toNat_natCast, false_and, and_false, true_and, and_true, if_true, if_false, reduceIte, reduceCtorEq, forall_const, false_or, or_false, true_or, or_true, ne_eq, not_true_eq_false, not_false_eq_true, implies_true, false_implies, Nat.reduceAdd, Nat.reduceSub, Nat.reduceMul, Nat.reduceEqDiff, Nat.reduceLT, Nat.reduceLeDiff, Int.reduceAdd, Int.reduceSub, Int.reduceMul, Int.reduceNeg, Int.reduceToNat, Int.reduceLE, Int.reduceLT, Int.reduceEq, Int.reduceNe, and_self]
      (repeat' (first | with_reducible apply And.intro | intro _))
      all_goals first
        | omega
        | exact (hx _ (by assumption)).1
        | exact (hx _ (by assumption)).2
        | (rename_i z1 f1 e1 e3 e4 o19
           exact p28 z1 f1 e1 e3 e4 o19)
    · have h3 := h1 hv
      refine hc 20 _ _ _ fun _ _ => ?_
      clear hc hS hz
      simp only [pvSt1]
      simp only [C_X9_requireIndex, C_X1_read, pvE_iload_n1, pvLI_s, pvLd, pvE_iconst, pvE_invokestatic (h0 := eX9_97), pvC1_s, pvC2_s, pvAf_v, pvAf_x, pvPop, pvCs, pvCat, pvPush, aX9_addTransition_97, pvE_iload_n2, pvE_iload_n3, pvE_iload, pvE_aload_n0, pvLA_s, pvE_getfield, pvGf_0, pvGf_1, pvGf_2, fX9_35, pvSh_0, pvSh_1, pvSh_2, pvSh_3, pvSh_4, pvSh_5, pvSh_6, pvSh_7, pvSh_8, pvSh_9, pvSh_10, pvSh_11, pvSh_12, pvSh_13, pvSh_14, pvSh_15, pvSh_16, pvSh_17, pvSh_18, pvSh_19, pvSh_20, pvSh_21, pvSh_22, pvSh_23, pvSh_24, pvSh_25, pvSh_26, pvSh_27, pvSh_28, pvSh_29, pvSh_30, pvSh_31, pvSh_32, pvSh_33, pvSh_34, pvSh_35, pvSh_36, pvSh_37, pvSh_38, pvRf_0_0, pvRf_0_1, pvRf_0_2, pvRf_0_3, pvRf_0_4, pvRf_0_5, pvRf_0_6, pvRf_0_7, pvRf_0_8, pvRf_0_9, pvRf_0_10, pvRf_1_0, pvRf_3_0, pvRf_5_0, pvRf_5_1, pvRf_5_2, pvRf_9_0, pvRf_9_1, pvRf_9_2, pvRf_13_0, pvRf_13_1, pvRf_13_2, pvRf_17_0, pvRf_17_2, pvRf_20_0, pvRf_20_1, pvRf_20_2, pvRf_24_0, pvRf_24_1, pvRf_24_2, pvRf_28_0, pvRf_28_1, pvRf_28_2, pvRf_28_3, pvRf_33_0, pvRf_33_1, pvRf_36_0, pvRf_36_1, pvE_invokevirtual, aX9_addTransition_101, fX9_93, pvE_icmp_ne, pvE_goto, pvE_invokestatic (h0 := eX9_78), aX9_addTransition_78, aX9_addTransition_104, pvE_astore, pvS1, List.length_cons, List.length_nil, pvClr_i, pvClr_r, pvClr_l, pvClr_d, pvClr_f, pvClr_n, pvE_aload, aX9_addTransition_108, pvE_bipush, pvE_icmp_ge, pvE_invokestatic (h0 := eX9_86), aX9_addTransition_86, aX9_addTransition_112, aX9_addTransition_115, pvE_ireturn, bX9_addTransition_0, uX9_addTransition_0, bX9_addTransition_28, uX9_addTransition_28, bX9_addTransition_43, uX9_addTransition_43, bX9_addTransition_44, uX9_addTransition_44, bX9_addTransition_68, uX9_addTransition_68, bX9_addTransition_69, uX9_addTransition_69, bX9_addTransition_76, uX9_addTransition_76, pvMk_t, pvMk_f, pvMk_n, pvRtG, pvRecv_r, pvUp_nl, pvUp_same, pvUp_ap, pvSt_ap, pvX_c, pvX_ms, pvX_mn, pvE_nil, pvEn_i, pvEn_r, pvEn_l, pvEn_0, pvEn_s, pvRt, pvRv, pvTh, pvKc, pvGo, pvTgt, Int.toNat_natCast, false_and, and_false, true_and, and_true, if_true, if_false, reduceIte, reduceCtorEq, forall_const, false_or, or_false, true_or, or_true, ne_eq, not_true_eq_false, not_false_eq_true, implies_true, false_implies, Nat.reduceAdd, Nat.reduceSub, Nat.reduceMul, Nat.reduceEqDiff, Nat.reduceLT, Nat.reduceLeDiff, Int.reduceAdd, Int.reduceSub, Int.reduceMul, Int.reduceNeg, Int.reduceToNat, Int.reduceLE, Int.reduceLT, Int.reduceEq, Int.reduceNe, and_self]
      (repeat' (first | with_reducible apply And.intro | intro _))
      all_goals first
        | omega
        | assumption
        | (exfalso; exact hv ⟨by omega, by omega, by omega, by omega⟩)
  · exact h.elim

