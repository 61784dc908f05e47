/-! the memory at the start, and what holds of it -/
theorem tl_1 {w : Jvm.Cond} (i : Nat) (h0 : tables_1_1[i]? = some w) : w ∈ lw_tbl := by
  have h := List.mem_of_getElem? h0
  exact List.mem_append_right _ (show w ∈ tables_1 from List.mem_append_left _ h)
theorem tl_2 {w : Jvm.Cond} (i : Nat) (h0 : tables_1_2[i]? = some w) : w ∈ lw_tbl := by
  have h := List.mem_of_getElem? h0
  exact List.mem_append_right _ (show w ∈ tables_1 from List.mem_append_right _ (List.mem_append_left _ h))
theorem tl_3 {w : Jvm.Cond} (i : Nat) (h0 : tables_1_3[i]? = some w) : w ∈ lw_tbl := by
  have h := List.mem_of_getElem? h0
  exact List.mem_append_right _ (show w ∈ tables_1 from List.mem_append_right _ (List.mem_append_right _ (List.mem_append_left _ h)))
theorem tl_4 {w : Jvm.Cond} (i : Nat) (h0 : tables_1_4[i]? = some w) : w ∈ lw_tbl := by
  have h := List.mem_of_getElem? h0
  exact List.mem_append_right _ (show w ∈ tables_1 from List.mem_append_right _ (List.mem_append_right _ (List.mem_append_right _ (List.mem_append_left _ h))))
theorem tl_5 {w : Jvm.Cond} (i : Nat) (h0 : tables_1_5[i]? = some w) : w ∈ lw_tbl := by
  have h := List.mem_of_getElem? h0
  exact List.mem_append_right _ (show w ∈ tables_1 from List.mem_append_right _ (List.mem_append_right _ (List.mem_append_right _ (List.mem_append_right _ (h)))))
def stA : Nat → Int := fun k => if k = 1 then 1 else 0
def stT : Nat → Int := fun k => if k = 4 then -1 else 0
def stW : Nat → Int := fun k => if k = 3 then 215 else 0
def stI : Nat → Nat → Int
  | 2 => stA
  | 4 => stA
  | 17 => stT
  | 20 => stW
  | _ => fun _ => 0
def stM : pvM := (stI, fun _ _ => 0, fun _ _ => 0)
theorem st_rng : pvRng stM := by
  intro id k
  show pvR (stI id k)
  unfold stI
  split
  · unfold stA; split <;> exact ⟨by decide, by decide⟩
  · unfold stA; split <;> exact ⟨by decide, by decide⟩
  · unfold stT; split <;> exact ⟨by decide, by decide⟩
  · unfold stW; split <;> exact ⟨by decide, by decide⟩
  · show pvR 0
    exact ⟨by decide, by decide⟩
theorem st_A : autC stA = clA := by
  show abA 0 1 0 (cT stA) = _
  unfold abA
  have e : (fun t : Nat => if (t : Int) < 0 then nrT (cT stA t) else fun _ => 0) = (fun _ _ => (0 : Int)) := by
    funext t
    rw [if_neg (by omega)]
  rw [e]
  rfl
theorem st_W : WfC stA := ⟨by rw [st_A]; exact clA_w, fun t ht => absurd (show (t : Int) < 0 from ht) (by omega)⟩
theorem st_g : stG stM stM := by
  refine ⟨frF_0, ⟨⟨Int.le_refl 0, ?_⟩, Int.le_refl 0, ?_⟩, ⟨st_W, st_W⟩, fun _ _ => rfl, fun _ _ => rfl, rfl, rfl⟩
  · show (0 : Int) ≤ 7
    decide
  · show (0 : Int) ≤ 8
    decide
theorem st_p : psS stM 13 emA := by
  refine ⟨Or.inr (Or.inr rfl), fun a v ha hv => ⟨?_, fun q r hq hr => ?_⟩, ?_, ?_, emA_w⟩
  · show (0 : Int) ≤ 0 ∧ (0 : Int) ≤ 65535
    exact ⟨by decide, by decide⟩
  · show _ ↔ _
    constructor
    · intro h9
      simp [stM, stI] at h9
    · rintro ⟨t, ht, -⟩
      exact absurd (show t < 0 from ht) (Nat.not_lt_zero _)
  · rfl
  · rfl
theorem st_q : quF stM [] := ⟨rfl, fun i hi => absurd hi (Nat.not_lt_zero _), fun c hc => by
  rw [if_neg List.not_mem_nil]
  rfl, List.nodup_nil, fun c hc => absurd hc List.not_mem_nil⟩
theorem st_w : WvF stM.1 := wv_0 rfl rfl
theorem pv_known {s : State} {args : Array Value} (hts : ∀ w ∈ pvTb, w.before args s = true) : ∃ D : va_G, ∀ (k : Nat) (q : vw_C), vwCl[k]? = some q → u_Kn s q.1 q.2.1 q.2.2 (D.1 k) (D.2 k) := by
  have h : ∀ k : Nat, ∃ cC : ClassId, ∃ iS : Nat → Nat, ∀ q : vw_C, vwCl[k]? = some q → u_Kn s q.1 q.2.1 q.2.2 cC iS := by
    intro k
    match k with
    | 0 => obtain ⟨c, i, h⟩ := u_known (C := RX0) (T := TX0) (N := 1) (n := 1) hts wsok_X0 (hts _ wd_1_39); exact ⟨c, i, fun q hq => by cases hq; exact h⟩
    | 1 => obtain ⟨c, i, h⟩ := u_known (C := RX1) (T := TX1) (N := 5) (n := 5) hts wsok_X1 (hts _ wd_1_84); exact ⟨c, i, fun q hq => by cases hq; exact h⟩
    | 2 => obtain ⟨c, i, h⟩ := u_known (C := RX2) (T := TX2) (N := 5) (n := 5) hts wsok_X2 (hts _ wd_1_183); exact ⟨c, i, fun q hq => by cases hq; exact h⟩
    | 3 => obtain ⟨c, i, h⟩ := u_known (C := RX3) (T := TX3) (N := 7) (n := 7) hts wsok_X3 (hts _ wd_1_50); exact ⟨c, i, fun q hq => by cases hq; exact h⟩
    | 4 => obtain ⟨c, i, h⟩ := u_known (C := RX4) (T := TX4) (N := 3) (n := 3) hts wsok_X4 (hts _ wd_1_131); exact ⟨c, i, fun q hq => by cases hq; exact h⟩
    | 5 => obtain ⟨c, i, h⟩ := u_known (C := RX5) (T := TX5) (N := 5) (n := 5) hts wsok_X5 (hts _ wd_1_148); exact ⟨c, i, fun q hq => by cases hq; exact h⟩
    | 6 => obtain ⟨c, i, h⟩ := u_known (C := RX6) (T := TX6) (N := 5) (n := 5) hts wsok_X6 (hts _ wd_1_108); exact ⟨c, i, fun q hq => by cases hq; exact h⟩
    | 7 => obtain ⟨c, i, h⟩ := u_known (C := RX8) (T := TX8) (N := 2) (n := 2) hts wsok_X8 (hts _ wd_1_170); exact ⟨c, i, fun q hq => by cases hq; exact h⟩
    | 8 => obtain ⟨c, i, h⟩ := u_known (C := RX9) (T := TX9) (N := 11) (n := 11) hts wsok_X9 (hts _ wd_1_31); exact ⟨c, i, fun q hq => by cases hq; exact h⟩
    | 9 => obtain ⟨c, i, h⟩ := u_known (C := RJ0) (T := TJ0) (N := 4) (n := 4) hts wsok_J0 (hts _ wd_3_220); exact ⟨c, i, fun q hq => by cases hq; exact h⟩
    | 10 => obtain ⟨c, i, h⟩ := u_known (C := RJ4) (T := TJ4) (N := 4) (n := 4) hts wsok_J4 (hts _ wd_3_58); exact ⟨c, i, fun q hq => by cases hq; exact h⟩
    | k + 11 => obtain ⟨c, i, h⟩ := u_known (C := RX0) (T := TX0) (N := 1) (n := 1) hts wsok_X0 (hts _ wd_1_39); exact ⟨c, i, fun q hq => by simp at hq⟩
  obtain ⟨dC, h1⟩ := Classical.axiomOfChoice h
  obtain ⟨dI, h2⟩ := Classical.axiomOfChoice h1
  exact ⟨(dC, dI), fun k q hq => h2 k q hq⟩
set_option maxRecDepth 100000 in
theorem tx_hex : ∀ i : Nat, i < 12 → Cond.exactly (Term.string "EventClockWorkbenchLaw" (txI i)) "java/lang/String" ∈ (flatC (Jvm.Cond.and given_1 narrow_1)) ∧ Cond.eq (.field (Term.string "EventClockWorkbenchLaw" (txI i)) "java/lang/String" "coder" "B") (.int 0) ∈ (flatC (Jvm.Cond.and given_1 narrow_1)) ∧ Cond.arrayOf (.field (Term.string "EventClockWorkbenchLaw" (txI i)) "java/lang/String" "value" "[B") .byte ∈ (flatC (Jvm.Cond.and given_1 narrow_1)) ∧ Cond.eq (.length (.field (Term.string "EventClockWorkbenchLaw" (txI i)) "java/lang/String" "value" "[B")) (.int (Int32.ofNat (txL.getD i 0))) ∈ (flatC (Jvm.Cond.and given_1 narrow_1)) := by decide +kernel
set_option maxRecDepth 100000 in
theorem tx_hel : ∀ i : Nat, i < 12 → ∀ j : Nat, j < txL.getD i 0 → Cond.eq (.elem (.field (Term.string "EventClockWorkbenchLaw" (txI i)) "java/lang/String" "value" "[B") (.int (Int32.ofNat j))) (.int ((txB.getD i []).getD j 0)) ∈ (flatC (Jvm.Cond.and given_1 narrow_1)) := by decide +kernel
set_option maxRecDepth 100000 in
theorem tx_hne : ∀ i : Nat, i < 12 → ∀ j : Nat, j < 12 → i ≠ j → Cond.not (Cond.eq (Term.string "EventClockWorkbenchLaw" (txI i)) (Term.string "EventClockWorkbenchLaw" (txI j))) ∈ (flatC (Jvm.Cond.and given_1 narrow_1)) ∨ Cond.not (Cond.eq (Term.string "EventClockWorkbenchLaw" (txI j)) (Term.string "EventClockWorkbenchLaw" (txI i))) ∈ (flatC (Jvm.Cond.and given_1 narrow_1)) := by decide +kernel
set_option maxRecDepth 100000 in
theorem tx_dig : ∀ j : Nat, j < 100 → Cond.eq (.elem (.static "java/lang/Integer" "DigitOnes" "[B") (.int (Int32.ofNat j))) (.int (Int32.ofNat (48 + j % 10))) ∈ (flatC (Jvm.Cond.and given_1 narrow_1)) := by decide +kernel
theorem tx_l12 : ∀ i : Nat, i < 12 → txL.getD i 0 < 2 ^ 31 := by decide +kernel
theorem pv_tx {s : State} {b : Nat} (hts1 : ∀ w ∈ lw_tbl, w.before #[Value.ref b] s = true) (hgv : (Jvm.Cond.and given_1 narrow_1).before #[Value.ref b] s = true) : pvTx (fun q => s.heap.size ≤ q) s := by
  have hs0 := flat_of_before _ hgv
  have hA : ∀ a : Nat, a < s.heap.size → ¬ (fun q => s.heap.size ≤ q) a := fun a h => Nat.not_le.mpr h
  obtain ⟨adK, adV, h1, h2⟩ := vk_Sof (N := 12) (tm := fun i => Term.string "EventClockWorkbenchLaw" (txI i)) (len := txL) (byt := txB) (A := fun q => s.heap.size ≤ q) tx_l12 (fun i hi => hs0 _ (tx_hex i hi).1) (fun i hi => hs0 _ (tx_hex i hi).2.1) (fun i hi => hs0 _ (tx_hex i hi).2.2.1) (fun i hi => hs0 _ (tx_hex i hi).2.2.2) (fun i hi j hj => hs0 _ (tx_hel i hi j hj)) (fun i j hi hj e => (tx_hne i hi j hj e).imp (hs0 _) (hs0 _)) hA
  obtain ⟨dg, h3, h4⟩ := va_Tof (tm := .static "java/lang/Integer" "DigitOnes" "[B") (ty := .byte) (N := 100) (f := fun j => .int (Int32.ofNat (48 + j % 10))) (A := fun q => s.heap.size ≤ q) (by decide) (hs0 _ (by decide +kernel)) (va_eqt (hs0 _ (by decide +kernel))) (fun j hj => va_eqt (hs0 _ (tx_dig j hj))) hA
  refine ⟨⟨adK, adV, h1, fun i hi => ?_⟩, va_Zof (hts1 _ (tl_3 67 rfl)) (hts1 _ (tl_1 18 rfl)) (va_eqt (hs0 _ (by decide +kernel))) hA, va_Zqof (hts1 _ (tl_3 151 rfl)) (hts1 _ (tl_1 22 rfl)) (hs0 _ (by decide +kernel)) hA, dg, va_Zof (hts1 _ (tl_4 55 rfl)) (hts1 _ (tl_1 25 rfl)) h3 hA, h4⟩
  match i, hi with
  | 0, hi => exact vk_R.of (hts1 _ (tl_3 56 rfl)) (h2 0 hi)
  | 1, hi => exact vk_R.of (hts1 _ (tl_3 207 rfl)) (h2 1 hi)
  | 2, hi => exact vk_R.of (hts1 _ (tl_3 211 rfl)) (h2 2 hi)
  | 3, hi => exact vk_R.of (hts1 _ (tl_3 212 rfl)) (h2 3 hi)
  | 4, hi => exact vk_R.of (hts1 _ (tl_3 213 rfl)) (h2 4 hi)
  | 5, hi => exact vk_R.of (hts1 _ (tl_3 214 rfl)) (h2 5 hi)
  | 6, hi => exact vk_R.of (hts1 _ (tl_4 35 rfl)) (h2 6 hi)
  | 7, hi => exact vk_R.of (hts1 _ (tl_4 36 rfl)) (h2 7 hi)
  | 8, hi => exact vk_R.of (hts1 _ (tl_4 37 rfl)) (h2 8 hi)
  | 9, hi => exact vk_R.of (hts1 _ (tl_4 38 rfl)) (h2 9 hi)
  | 10, hi => exact vk_R.of (hts1 _ (tl_4 39 rfl)) (h2 10 hi)
  | 11, hi => exact vk_R.of (hts1 _ (tl_4 40 rfl)) (h2 11 hi)
  | i + 12, hi => omega
theorem pv_hts {s : State} {args : Array Value} (hts1 : ∀ w ∈ lw_tbl, w.before args s = true) : ∀ w ∈ pvTb, w.before args s = true := by
  have h0 : ∀ w ∈ sbSels, w.before args s = true := List.forall_mem_cons.mpr ⟨sb_selP (y := ({ cls := "java/lang/AbstractStringBuilder", name := "ensureCapacityInternal", desc := "(I)V" } : Jvm.MethodName)) (y0 := ({ cls := "java/lang/AbstractStringBuilder", name := "isLatin1", desc := "()Z" } : Jvm.MethodName)) ⟨by decide +kernel, by decide +kernel⟩ rfl (hts1 _ (tl_3 136 rfl)) (hts1 _ (tl_3 101 rfl)) (hts1 _ (tl_3 102 rfl)), List.forall_mem_cons.mpr ⟨sb_selP (y := ({ cls := "java/lang/AbstractStringBuilder", name := "putStringAt", desc := "(ILjava/lang/String;)V" } : Jvm.MethodName)) (y0 := ({ cls := "java/lang/AbstractStringBuilder", name := "isLatin1", desc := "()Z" } : Jvm.MethodName)) ⟨by decide +kernel, by decide +kernel⟩ rfl (hts1 _ (tl_3 136 rfl)) (hts1 _ (tl_3 174 rfl)) (hts1 _ (tl_3 175 rfl)), List.forall_mem_cons.mpr ⟨sb_selP (y := ({ cls := "java/lang/AbstractStringBuilder", name := "inflateIfNeededFor", desc := "(Ljava/lang/String;)V" } : Jvm.MethodName)) (y0 := ({ cls := "java/lang/AbstractStringBuilder", name := "isLatin1", desc := "()Z" } : Jvm.MethodName)) ⟨by decide +kernel, by decide +kernel⟩ rfl (hts1 _ (tl_3 136 rfl)) (hts1 _ (tl_3 178 rfl)) (hts1 _ (tl_3 179 rfl)), fun _ h => absurd h List.not_mem_nil⟩⟩⟩
  intro w h
  rcases List.mem_append.mp (List.mem_filter.mp h).1 with h | h
  · exact h0 w h
  · exact hts1 w h
theorem pv_wc {s : State} {b L : Nat} {xs : Nat → Int32} (hL : L < 2147483648) (hX : va_X b L xs s s.heap) (hbl : b < s.heap.size) (hts1 : ∀ w ∈ lw_tbl, w.before #[Value.ref b] s = true) (hgv : (Jvm.Cond.and given_1 narrow_1).before #[Value.ref b] s = true) : ∃ (D : va_G) (cI cJ cD : ClassId), pvWc D cI cJ cD (b, L, xs) (fun q => s.heap.size ≤ q) s := by
  have hts : ∀ w ∈ pvTb, w.before #[Value.ref b] s = true := pv_hts hts1
  have hs0 := flat_of_before _ hgv
  obtain ⟨D, hKc⟩ := pv_known hts
  obtain ⟨cI, kI, eI, hI1, hI2, hI3⟩ := Cond.arrayClass_spec (hts _ wd_1_48)
  obtain ⟨cJ, kJ, eJ, hJ1, hJ2, hJ3⟩ := Cond.arrayClass_spec (hts _ wd_1_146)
  obtain ⟨cD, kD, eD, hD1, hD2, hD3⟩ := Cond.arrayClass_spec (hts _ wd_3_88)
  have hA : ∀ a : Nat, a < s.heap.size → ¬ (fun q => s.heap.size ≤ q) a := fun a h => Nat.not_le.mpr h
  refine ⟨D, cI, cJ, cD, ⟨hKc, fun k q h => ?_⟩, fun _ h => h, vx_Zqof (hts1 _ (tl_2 35 rfl)) (hts _ wd_1_10) (hs0 _ (by decide +kernel)) hA, vx_Zqof (hts1 _ (tl_2 37 rfl)) (hts _ wd_1_10) (hs0 _ (by decide +kernel)) hA, ?_, ?_, ?_, ?_, ⟨hL, hX, hbl, Nat.not_le.mpr hbl⟩, pv_tx hts1 hgv⟩
  · match k, h with
    | 0, h => cases h; exact ⟨fun n z => ⟨fun k h => (by cases h), kI, hI2, eI, hI3⟩, hI1⟩
    | 1, h => cases h; exact ⟨fun n z => ⟨fun k h => (by cases h), kJ, hJ2, eJ, hJ3⟩, hJ1⟩
    | 2, h => cases h; exact ⟨fun n z => ⟨fun k h => (by cases h), kD, hD2, eD, hD3⟩, hD1⟩
    | k + 3, h => simp at h
  · exact List.forall_mem_cons.mpr ⟨va_Nw.of rfl (hts1 _ (tl_2 115 rfl)), List.forall_mem_cons.mpr ⟨va_Nw.of rfl (hts1 _ (tl_2 10 rfl)), List.forall_mem_cons.mpr ⟨va_Nw.of rfl (hts1 _ (tl_2 77 rfl)), List.forall_mem_cons.mpr ⟨va_Nw.of rfl (hts1 _ (tl_5 80 rfl)), fun _ h => absurd h List.not_mem_nil⟩⟩⟩⟩
  · exact List.forall_mem_cons.mpr ⟨va_Nw.of rfl (hts1 _ (tl_2 11 rfl)), List.forall_mem_cons.mpr ⟨va_Nw.of rfl (hts1 _ (tl_2 13 rfl)), List.forall_mem_cons.mpr ⟨va_Nw.of rfl (hts1 _ (tl_2 15 rfl)), fun _ h => absurd h List.not_mem_nil⟩⟩⟩
  · exact List.forall_mem_cons.mpr ⟨List.forall_mem_cons.mpr ⟨fun e => absurd rfl e, fun _ h => absurd h List.not_mem_nil⟩, List.forall_mem_cons.mpr ⟨List.forall_mem_cons.mpr ⟨fun _ => va_Nc.of (hs0 (Cond.not (.castable "java/lang/IllegalArgumentException" "java/lang/IndexOutOfBoundsException")) (by decide +kernel)), fun _ h => absurd h List.not_mem_nil⟩, List.forall_mem_cons.mpr ⟨List.forall_mem_cons.mpr ⟨fun _ => va_Nc.of (hs0 (Cond.not (.castable "java/lang/IllegalStateException" "java/lang/IndexOutOfBoundsException")) (by decide +kernel)), fun _ h => absurd h List.not_mem_nil⟩, List.forall_mem_cons.mpr ⟨List.forall_mem_cons.mpr ⟨fun _ => va_Nc.of (hs0 (Cond.not (.castable "java/util/NoSuchElementException" "java/lang/IndexOutOfBoundsException")) (by decide +kernel)), fun _ h => absurd h List.not_mem_nil⟩, fun _ h => absurd h List.not_mem_nil⟩⟩⟩⟩
  · exact List.forall_mem_cons.mpr ⟨va_Nw.of rfl (hts1 _ (tl_2 94 rfl)), List.forall_mem_cons.mpr ⟨va_Nw.of rfl (hts1 _ (tl_2 171 rfl)), List.forall_mem_cons.mpr ⟨va_Nw.of rfl (hts1 _ (tl_2 172 rfl)), List.forall_mem_cons.mpr ⟨va_Nw.of rfl (hts1 _ (tl_2 227 rfl)), List.forall_mem_cons.mpr ⟨va_Nw.of rfl (hts1 _ (tl_3 23 rfl)), List.forall_mem_cons.mpr ⟨va_Nw.of rfl (hts1 _ (tl_4 106 rfl)), List.forall_mem_cons.mpr ⟨va_Nw.of rfl (hts1 _ (tl_4 131 rfl)), List.forall_mem_cons.mpr ⟨va_Nw.of rfl (hts1 _ (tl_5 1 rfl)), fun _ h => absurd h List.not_mem_nil⟩⟩⟩⟩⟩⟩⟩⟩
theorem pv_xc {s : State} {b : Nat} (hts1 : ∀ w ∈ lw_tbl, w.before #[Value.ref b] s = true) : ∀ q ∈ pvXnC, va_Nw (.methodLinkNest q.1 q.2.1 q.2.2 "EventClockWorkbench") s := List.forall_mem_cons.mpr ⟨va_Nw.of rfl (hts1 _ (tl_1 51 rfl)), List.forall_mem_cons.mpr ⟨va_Nw.of rfl (hts1 _ (tl_1 85 rfl)), List.forall_mem_cons.mpr ⟨va_Nw.of rfl (hts1 _ (tl_1 109 rfl)), List.forall_mem_cons.mpr ⟨va_Nw.of rfl (hts1 _ (tl_1 132 rfl)), List.forall_mem_cons.mpr ⟨va_Nw.of rfl (hts1 _ (tl_1 149 rfl)), List.forall_mem_cons.mpr ⟨va_Nw.of rfl (hts1 _ (tl_1 171 rfl)), List.forall_mem_cons.mpr ⟨va_Nw.of rfl (hts1 _ (tl_1 184 rfl)), fun _ h => absurd h List.not_mem_nil⟩⟩⟩⟩⟩⟩⟩
theorem st_cell : upd (fun _ => (0 : Int32)) (1 : Int32).toNatClampNeg 1 = fun j => Int32.ofInt (stA j) := by
  funext j
  show (if j = 1 then (1 : Int32) else 0) = Int32.ofInt (if j = 1 then 1 else 0)
  split <;> rfl
set_option maxHeartbeats 4000000 in
set_option maxRecDepth 100000 in
theorem st_world {cI cJ cD : ClassId} {q0 b : Nat} {u : Nat → Nat} : wc_X9_init cI cJ cD q0 u = pvWs (fun id => if id = 0 then q0 else if id = 60 then b else u (id - 1)) cI cJ cD (List.range 39) stM := by
  unfold wc_X9_init
  rw [st_cell]
  rfl
