/-! the memory at the start, and what holds of it -/
theorem tl_1 {w : Jvm.Cond} (i : Nat) (h0 : tables_1_1[i]? = some w) : w ∈ lw_tbl := by
  have h := List.mem_of_getElem? h0
  exact List.mem_append_right _ (show w ∈ tables_1 from List.mem_append_left _ h)
theorem tl_2 {w : Jvm.Cond} (i : Nat) (h0 : tables_1_2[i]? = some w) : w ∈ lw_tbl := by
  have h := List.mem_of_getElem? h0
  exact List.mem_append_right _ (show w ∈ tables_1 from List.mem_append_right _ (List.mem_append_left _ h))
theorem tl_3 {w : Jvm.Cond} (i : Nat) (h0 : tables_1_3[i]? = some w) : w ∈ lw_tbl := by
  have h := List.mem_of_getElem? h0
  exact List.mem_append_right _ (show w ∈ tables_1 from List.mem_append_right _ (List.mem_append_right _ (List.mem_append_left _ h)))
theorem tl_4 {w : Jvm.Cond} (i : Nat) (h0 : tables_1_4[i]? = some w) : w ∈ lw_tbl := by
  have h := List.mem_of_getElem? h0
  exact List.mem_append_right _ (show w ∈ tables_1 from List.mem_append_right _ (List.mem_append_right _ (List.mem_append_right _ (List.mem_append_left _ h))))
theorem tl_5 {w : Jvm.Cond} (i : Nat) (h0 : tables_1_5[i]? = some w) : w ∈ lw_tbl := by
  have h := List.mem_of_getElem? h0
  exact List.mem_append_right _ (show w ∈ tables_1 from List.mem_append_right _ (List.mem_append_right _ (List.mem_append_right _ (List.mem_append_right _ (List.mem_append_left _ h)))))
theorem tl_6 {w : Jvm.Cond} (i : Nat) (h0 : tables_1_6[i]? = some w) : w ∈ lw_tbl := by
  have h := List.mem_of_getElem? h0
  exact List.mem_append_right _ (show w ∈ tables_1 from List.mem_append_right _ (List.mem_append_right _ (List.mem_append_right _ (List.mem_append_right _ (List.mem_append_right _ (List.mem_append_left _ h))))))
theorem tl_7 {w : Jvm.Cond} (i : Nat) (h0 : tables_1_7[i]? = some w) : w ∈ lw_tbl := by
  have h := List.mem_of_getElem? h0
  exact List.mem_append_right _ (show w ∈ tables_1 from List.mem_append_right _ (List.mem_append_right _ (List.mem_append_right _ (List.mem_append_right _ (List.mem_append_right _ (List.mem_append_right _ (h)))))))
def stA : Nat → Int := fun k => if k = 1 then 1 else 0
def stT : Nat → Int := fun k => if k = 4 then -1 else 0
def stW : Nat → Int := fun k => if k = 3 then 215 else 0
def stI : Nat → Nat → Int
  | 2 => stA
  | 4 => stA
  | 17 => stT
  | 20 => stW
  | _ => fun _ => 0
def stM : pvM := (stI, fun _ _ => 0, fun _ _ => 0)
theorem st_rng : pvRng stM := by
  intro id k
  show pvR (stI id k)
  unfold stI
  split
  · unfold stA; split <;> exact ⟨by decide, by decide⟩
  · unfold stA; split <;> exact ⟨by decide, by decide⟩
  · unfold stT; split <;> exact ⟨by decide, by decide⟩
  · unfold stW; split <;> exact ⟨by decide, by decide⟩
  · show pvR 0
    exact ⟨by decide, by decide⟩
theorem abA_0 {i f : Int} {T : Nat → Nat → Int} : abA 0 i f T = (0, i, f, fun _ _ => 0) := by
  unfold abA
  have e : (fun t : Nat => if (t : Int) < 0 then nrT (T t) else fun _ => 0) = (fun _ _ => (0 : Int)) := by
    funext t
    rw [if_neg (by omega)]
  rw [e]
theorem st_lw {z : pvM} (h : nwP stM z) : lwI z := by
  obtain ⟨f, c, s⟩ := h
  have g : ∀ x, x ∉ [40, 52] → z.1 x = (nwM stM).1 x := f.1
  have e2 : z.1 2 = stA := g 2 (by decide)
  have e4 : z.1 4 = stA := g 4 (by decide)
  have e17 : z.1 17 = stT := g 17 (by decide)
  have e20 : z.1 20 = stW := g 20 (by decide)
  have e39 : z.1 39 = fun k => if k = 12 then -1 else 0 := g 39 (by decide)
  have e36 : z.1 36 = fun _ => 0 := g 36 (by decide)
  have e5 : z.1 5 = fun _ => 0 := g 5 (by decide)
  have e9 : z.1 9 = fun _ => 0 := g 9 (by decide)
  have e13 : z.1 13 = fun _ => 0 := g 13 (by decide)
  have e14 : z.1 14 = fun _ => 0 := g 14 (by decide)
  have e28 : z.1 28 = fun _ => 0 := g 28 (by decide)
  have e29 : z.1 29 = fun _ => 0 := g 29 (by decide)
  have hA : autC stA = clA := by
    show abA 0 1 0 (cT stA) = _
    rw [abA_0]
    rfl
  have hR : ∀ s : Int, 0 ≤ s ∧ s ≤ 1 → autR (z.1 40) s = clA := by
    intro s hs
    have h1 := c s hs
    have a1 : z.1 40 (163 * s.toNat) = 1 := by
      have := h1.1
      rw [show (163 * s).toNat = 163 * s.toNat by omega] at this
      exact this
    have a2 : z.1 40 (163 * s.toNat + 2) = 0 := h1.2 _ (by omega) (by omega)
    have a3 : z.1 40 (163 * s.toNat + 1) = 0 := h1.2 _ (by omega) (by omega)
    unfold autR
    rw [a1, a2, a3, abA_0]
    rfl
  have hW : WfC stA := ⟨by rw [hA]; exact clA_w, fun t ht => absurd (show (t : Int) < 0 from ht) (by omega)⟩
  have hrw : ∀ s : Int, z.1 (rwC s) = stA := fun s => by unfold rwC; split <;> assumption
  have aI : aiF z := fun s hs => by
    rw [hrw s]
    exact ⟨by rw [hA, hR s hs], hW⟩
  refine ⟨aI, ⟨⟨?_, ?_, ?_, ?_⟩, fun j hj => ?_⟩, ⟨wv_0 ?_ ?_, ?_, fun j hj => ?_⟩, ⟨⟨⟨⟨?_, ?_⟩, ?_, ?_⟩, ?_⟩, fun j s hj => ?_⟩, ⟨⟨?_, Or.inl ?_⟩, fun s h1 => ?_⟩, fun s hs => ⟨(aI s hs).2, Or.inl ?_, fun h1 => ?_⟩, ⟨[], ?_, fun i hi => absurd hi (Nat.not_lt_zero _), fun c hc => ?_, List.nodup_nil, fun c hc => absurd hc List.not_mem_nil⟩, ⟨Or.inr (Or.inr rfl), fun a v ha hv => ⟨?_, fun q r hq hr => ?_⟩, ?_, ?_, emA_w⟩, s⟩
  · rw [e17, e39]; rfl
  · rw [e17, e39]; rfl
  · rw [e17]; decide
  · rw [e17]; decide
  · rw [e17] at hj
    exact absurd (show (j : Int) < 0 from hj) (by omega)
  · rw [e20]; rfl
  · rw [e20]; rfl
  · rw [e20, e39]; rfl
  · rw [e20] at hj
    exact absurd (show (j : Int) < 0 from hj) (by omega)
  · rw [e36]; exact Int.le_refl 0
  · rw [e36]; decide
  · rw [e36]; exact Int.le_refl 0
  · rw [e36]; decide
  · rw [e36, e39]; rfl
  · rw [e36] at hj
    exact absurd (show (j : Int) < 0 from hj) (by omega)
  · rw [e36, e39]; rfl
  · rw [e36]
  · rw [e36] at h1
    exact absurd h1 (by decide)
  · unfold pwF
    split
    · rw [e5]
    · rw [e9]
  · exfalso
    unfold pwF at h1
    split at h1
    · rw [e5] at h1
      exact absurd h1 (by decide)
    · rw [e9] at h1
      exact absurd h1 (by decide)
  · rw [e28]; rfl
  · rw [e29, if_neg List.not_mem_nil]
  · rw [e14]
    show (0 : Int) ≤ 0 ∧ (0 : Int) ≤ 65535
    exact ⟨by decide, by decide⟩
  · rw [e14]
    constructor
    · intro h9
      simp at h9
    · rintro ⟨t, ht, -⟩
      exact absurd (show t < 0 from ht) (Nat.not_lt_zero _)
  · rw [e13]; rfl
  · rw [e13]; rfl
theorem rf58 {id k : Nat} (h : id < 58) : pvRf id k < 58 := by
  unfold pvRf
  split <;> omega
/-- with the rows of answers -/
def otM (z : pvM) : pvM := (z.1, fun id => if id < 58 then z.2.1 id else fun _ => 0, fun id => if id < 58 then z.2.2 id else fun _ => 0)
theorem ot_world {ad1 : Nat → Nat} {q8 q9 b : Nat} {cI cJ cD : ClassId} {z : pvM} : pvWs (fun id => if id < 58 then ad1 id else if id = 58 then q8 else if id = 59 then q9 else b) cI cJ cD 60 (otM z) = pvWs ad1 cI cJ cD 58 z ++ [(q8, .inl (cJ, 1, .inr (.inl fun _ => (0 : Int64))))] ++ [(q9, .inl (cD, 1, .inr (.inr (.inr (.inl fun _ => (0 : UInt64))))))] := by
  have e : pvWs (fun id => if id < 58 then ad1 id else if id = 58 then q8 else if id = 59 then q9 else b) cI cJ cD 58 (otM z) = pvWs ad1 cI cJ cD 58 z := by
    unfold pvWs
    apply List.map_congr_left
    intro id hid
    have h := List.mem_range.mp hid
    have e1 : ∀ k, k < 58 → (fun id => if id < 58 then ad1 id else if id = 58 then q8 else if id = 59 then q9 else b) k = ad1 k := fun k hk => if_pos hk
    have e2 : pvE (fun id => if id < 58 then ad1 id else if id = 58 then q8 else if id = 59 then q9 else b) cI cJ cD (otM z) id = pvE ad1 cI cJ cD z id := by
      rw [pvE_same (z' := otM z) (z := z) rfl (if_pos h) (if_pos h)]
      unfold pvE
      have e3 : ∀ k, (if pvRf id k < 58 then ad1 (pvRf id k) else if pvRf id k = 58 then q8 else if pvRf id k = 59 then q9 else b) = ad1 (pvRf id k) := fun k => if_pos (rf58 h)
      simp only [e3]
    exact Prod.ext (e1 id h) e2
  rw [← e]
  unfold pvWs
  rw [show List.range 60 = List.range 58 ++ [58] ++ [59] from by decide +kernel, List.map_append, List.map_append]
  rfl
theorem pv_known {s : State} {args : Array Value} (hts : ∀ w ∈ pvTb, w.before args s = true) : ∃ D : va_G, ∀ (k : Nat) (q : vw_C), vwCl[k]? = some q → u_Kn s q.1 q.2.1 q.2.2 (D.1 k) (D.2 k) := by
  have h : ∀ k : Nat, ∃ cC : ClassId, ∃ iS : Nat → Nat, ∀ q : vw_C, vwCl[k]? = some q → u_Kn s q.1 q.2.1 q.2.2 cC iS := by
    intro k
    match k with
    | 0 => obtain ⟨c, i, h⟩ := u_known (C := RX0) (T := TX0) (N := 1) (n := 1) hts wsok_X0 (hts _ wd_1_31); exact ⟨c, i, fun q hq => by cases hq; exact h⟩
    | 1 => obtain ⟨c, i, h⟩ := u_known (C := RX1) (T := TX1) (N := 5) (n := 5) hts wsok_X1 (hts _ wd_1_76); exact ⟨c, i, fun q hq => by cases hq; exact h⟩
    | 2 => obtain ⟨c, i, h⟩ := u_known (C := RX2) (T := TX2) (N := 5) (n := 5) hts wsok_X2 (hts _ wd_1_177); exact ⟨c, i, fun q hq => by cases hq; exact h⟩
    | 3 => obtain ⟨c, i, h⟩ := u_known (C := RX3) (T := TX3) (N := 7) (n := 7) hts wsok_X3 (hts _ wd_1_42); exact ⟨c, i, fun q hq => by cases hq; exact h⟩
    | 4 => obtain ⟨c, i, h⟩ := u_known (C := RX4) (T := TX4) (N := 3) (n := 3) hts wsok_X4 (hts _ wd_1_125); exact ⟨c, i, fun q hq => by cases hq; exact h⟩
    | 5 => obtain ⟨c, i, h⟩ := u_known (C := RX5) (T := TX5) (N := 5) (n := 5) hts wsok_X5 (hts _ wd_1_142); exact ⟨c, i, fun q hq => by cases hq; exact h⟩
    | 6 => obtain ⟨c, i, h⟩ := u_known (C := RX6) (T := TX6) (N := 5) (n := 5) hts wsok_X6 (hts _ wd_1_100); exact ⟨c, i, fun q hq => by cases hq; exact h⟩
    | 7 => obtain ⟨c, i, h⟩ := u_known (C := RX8) (T := TX8) (N := 2) (n := 2) hts wsok_X8 (hts _ wd_1_164); exact ⟨c, i, fun q hq => by cases hq; exact h⟩
    | 8 => obtain ⟨c, i, h⟩ := u_known (C := RX9) (T := TX9) (N := 11) (n := 11) hts wsok_X9 (hts _ wd_1_23); exact ⟨c, i, fun q hq => by cases hq; exact h⟩
    | 9 => obtain ⟨c, i, h⟩ := u_known (C := RX10) (T := TX10) (N := 31) (n := 31) hts wsok_X10 (hts _ wd_5_136); exact ⟨c, i, fun q hq => by cases hq; exact h⟩
    | k + 10 => obtain ⟨c, i, h⟩ := u_known (C := RX0) (T := TX0) (N := 1) (n := 1) hts wsok_X0 (hts _ wd_1_31); exact ⟨c, i, fun q hq => by simp at hq⟩
  obtain ⟨dC, h1⟩ := Classical.axiomOfChoice h
  obtain ⟨dI, h2⟩ := Classical.axiomOfChoice h1
  exact ⟨(dC, dI), fun k q hq => h2 k q hq⟩
theorem pv_wc {s : State} {b : Nat} (hts1 : ∀ w ∈ lw_tbl, w.before #[Value.ref b] s = true) (hgv : (Jvm.Cond.and given_1 narrow_1).before #[Value.ref b] s = true) : ∃ (D : va_G) (cI cJ cD : ClassId), pvWc D cI cJ cD (fun q => s.heap.size ≤ q) s := by
  have hts : ∀ w ∈ pvTb, w.before #[Value.ref b] s = true := fun w h => hts1 w (List.mem_filter.mp h).1
  have hs0 := flat_of_before _ hgv
  obtain ⟨D, hKc⟩ := pv_known hts
  obtain ⟨cI, kI, eI, hI1, hI2, hI3⟩ := Cond.arrayClass_spec (hts _ wd_1_40)
  obtain ⟨cJ, kJ, eJ, hJ1, hJ2, hJ3⟩ := Cond.arrayClass_spec (hts _ wd_1_140)
  obtain ⟨cD, kD, eD, hD1, hD2, hD3⟩ := Cond.arrayClass_spec (hts _ wd_7_100)
  have hA : ∀ a : Nat, a < s.heap.size → ¬ (fun q => s.heap.size ≤ q) a := fun a h => Nat.not_le.mpr h
  refine ⟨D, cI, cJ, cD, ⟨hKc, fun k q h => ?_⟩, fun _ h => h, vx_Zqof (hts1 _ (tl_2 70 rfl)) (hts _ wd_1_11) (hs0 _ (by decide +kernel)) hA, vx_Zqof (hts1 _ (tl_2 72 rfl)) (hts _ wd_1_11) (hs0 _ (by decide +kernel)) hA, ?_, ?_, ?_, ?_⟩
  · match k, h with
    | 0, h => cases h; exact ⟨fun n z => ⟨fun k h => (by cases h), kI, hI2, eI, hI3⟩, hI1⟩
    | 1, h => cases h; exact ⟨fun n z => ⟨fun k h => (by cases h), kJ, hJ2, eJ, hJ3⟩, hJ1⟩
    | 2, h => cases h; exact ⟨fun n z => ⟨fun k h => (by cases h), kD, hD2, eD, hD3⟩, hD1⟩
    | k + 3, h => simp at h
  · exact List.forall_mem_cons.mpr ⟨va_Nw.of rfl (hts1 _ (tl_2 147 rfl)), List.forall_mem_cons.mpr ⟨va_Nw.of rfl (hts1 _ (tl_2 45 rfl)), List.forall_mem_cons.mpr ⟨va_Nw.of rfl (hts1 _ (tl_2 116 rfl)), List.forall_mem_cons.mpr ⟨va_Nw.of rfl (hts1 _ (tl_4 36 rfl)), fun _ h => absurd h List.not_mem_nil⟩⟩⟩⟩
  · exact List.forall_mem_cons.mpr ⟨va_Nw.of rfl (hts1 _ (tl_2 46 rfl)), List.forall_mem_cons.mpr ⟨va_Nw.of rfl (hts1 _ (tl_2 48 rfl)), List.forall_mem_cons.mpr ⟨va_Nw.of rfl (hts1 _ (tl_2 50 rfl)), fun _ h => absurd h List.not_mem_nil⟩⟩⟩
  · exact List.forall_mem_cons.mpr ⟨List.forall_mem_cons.mpr ⟨fun e => absurd rfl e, List.forall_mem_cons.mpr ⟨fun _ => va_Nc.of (hs0 (Cond.not (.castable "java/lang/IndexOutOfBoundsException" "java/lang/IllegalArgumentException")) (by decide +kernel)), List.forall_mem_cons.mpr ⟨fun _ => va_Nc.of (hs0 (Cond.not (.castable "java/lang/IndexOutOfBoundsException" "java/lang/IllegalStateException")) (by decide +kernel)), List.forall_mem_cons.mpr ⟨fun _ => va_Nc.of (hs0 (Cond.not (.castable "java/lang/IndexOutOfBoundsException" "java/util/NoSuchElementException")) (by decide +kernel)), fun _ h => absurd h List.not_mem_nil⟩⟩⟩⟩, List.forall_mem_cons.mpr ⟨List.forall_mem_cons.mpr ⟨fun _ => va_Nc.of (hs0 (Cond.not (.castable "java/lang/IllegalArgumentException" "java/lang/IndexOutOfBoundsException")) (by decide +kernel)), List.forall_mem_cons.mpr ⟨fun e => absurd rfl e, List.forall_mem_cons.mpr ⟨fun _ => va_Nc.of (hs0 (Cond.not (.castable "java/lang/IllegalArgumentException" "java/lang/IllegalStateException")) (by decide +kernel)), List.forall_mem_cons.mpr ⟨fun _ => va_Nc.of (hs0 (Cond.not (.castable "java/lang/IllegalArgumentException" "java/util/NoSuchElementException")) (by decide +kernel)), fun _ h => absurd h List.not_mem_nil⟩⟩⟩⟩, List.forall_mem_cons.mpr ⟨List.forall_mem_cons.mpr ⟨fun _ => va_Nc.of (hs0 (Cond.not (.castable "java/lang/IllegalStateException" "java/lang/IndexOutOfBoundsException")) (by decide +kernel)), List.forall_mem_cons.mpr ⟨fun _ => va_Nc.of (hs0 (Cond.not (.castable "java/lang/IllegalStateException" "java/lang/IllegalArgumentException")) (by decide +kernel)), List.forall_mem_cons.mpr ⟨fun e => absurd rfl e, List.forall_mem_cons.mpr ⟨fun _ => va_Nc.of (hs0 (Cond.not (.castable "java/lang/IllegalStateException" "java/util/NoSuchElementException")) (by decide +kernel)), fun _ h => absurd h List.not_mem_nil⟩⟩⟩⟩, List.forall_mem_cons.mpr ⟨List.forall_mem_cons.mpr ⟨fun _ => va_Nc.of (hs0 (Cond.not (.castable "java/util/NoSuchElementException" "java/lang/IndexOutOfBoundsException")) (by decide +kernel)), List.forall_mem_cons.mpr ⟨fun _ => va_Nc.of (hs0 (Cond.not (.castable "java/util/NoSuchElementException" "java/lang/IllegalArgumentException")) (by decide +kernel)), List.forall_mem_cons.mpr ⟨fun _ => va_Nc.of (hs0 (Cond.not (.castable "java/util/NoSuchElementException" "java/lang/IllegalStateException")) (by decide +kernel)), List.forall_mem_cons.mpr ⟨fun e => absurd rfl e, fun _ h => absurd h List.not_mem_nil⟩⟩⟩⟩, fun _ h => absurd h List.not_mem_nil⟩⟩⟩⟩
  · exact List.forall_mem_cons.mpr ⟨va_Nw.of rfl (hts1 _ (tl_2 22 rfl)), List.forall_mem_cons.mpr ⟨va_Nw.of rfl (hts1 _ (tl_2 133 rfl)), List.forall_mem_cons.mpr ⟨va_Nw.of rfl (hts1 _ (tl_2 180 rfl)), List.forall_mem_cons.mpr ⟨va_Nw.of rfl (hts1 _ (tl_3 131 rfl)), List.forall_mem_cons.mpr ⟨va_Nw.of rfl (hts1 _ (tl_3 191 rfl)), List.forall_mem_cons.mpr ⟨va_Nw.of rfl (hts1 _ (tl_3 223 rfl)), List.forall_mem_cons.mpr ⟨va_Nw.of rfl (hts1 _ (tl_3 232 rfl)), List.forall_mem_cons.mpr ⟨va_Nw.of rfl (hts1 _ (tl_3 233 rfl)), List.forall_mem_cons.mpr ⟨va_Nw.of rfl (hts1 _ (tl_4 104 rfl)), List.forall_mem_cons.mpr ⟨va_Nw.of rfl (hts1 _ (tl_4 217 rfl)), List.forall_mem_cons.mpr ⟨va_Nw.of rfl (hts1 _ (tl_5 70 rfl)), fun _ h => absurd h List.not_mem_nil⟩⟩⟩⟩⟩⟩⟩⟩⟩⟩⟩
theorem pv_xc {s : State} {b : Nat} (hts1 : ∀ w ∈ lw_tbl, w.before #[Value.ref b] s = true) : ∀ q ∈ pvXnC, va_Nw (.methodLinkNest q.1 q.2.1 q.2.2 "EventClockWorkbench") s := List.forall_mem_cons.mpr ⟨va_Nw.of rfl (hts1 _ (tl_1 43 rfl)), List.forall_mem_cons.mpr ⟨va_Nw.of rfl (hts1 _ (tl_1 77 rfl)), List.forall_mem_cons.mpr ⟨va_Nw.of rfl (hts1 _ (tl_1 101 rfl)), List.forall_mem_cons.mpr ⟨va_Nw.of rfl (hts1 _ (tl_1 126 rfl)), List.forall_mem_cons.mpr ⟨va_Nw.of rfl (hts1 _ (tl_1 143 rfl)), List.forall_mem_cons.mpr ⟨va_Nw.of rfl (hts1 _ (tl_1 165 rfl)), List.forall_mem_cons.mpr ⟨va_Nw.of rfl (hts1 _ (tl_1 178 rfl)), fun _ h => absurd h List.not_mem_nil⟩⟩⟩⟩⟩⟩⟩
theorem st_cell : upd (fun _ => (0 : Int32)) (1 : Int32).toNatClampNeg 1 = fun j => Int32.ofInt (stA j) := by
  funext j
  show (if j = 1 then (1 : Int32) else 0) = Int32.ofInt (if j = 1 then 1 else 0)
  split <;> rfl
set_option maxHeartbeats 4000000 in
set_option maxRecDepth 100000 in
theorem st_world {cI cJ cD : ClassId} {q0 : Nat} {u : Nat → Nat} : wc_X9_init cI cJ cD q0 u = pvWs (fun id => if id = 0 then q0 else u (id - 1)) cI cJ cD 39 stM := by
  unfold wc_X9_init
  rw [st_cell]
  rfl
