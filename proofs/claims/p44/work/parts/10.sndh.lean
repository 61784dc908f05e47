/-! the memory against the heap; instructions that read and write it -/
def pvE (ad : Nat → Nat) (cI cJ cD : ClassId) (z : pvM) (id : Nat) : va_E := match pvSh id with
  | .inl ci => .inr (ci, (List.range (pvNf ci)).map fun k => if pvKd ci k = 2 then Value.ref (ad (pvRf id k)) else Value.int (Int32.ofInt (z.1 id k)))
  | .inr (0, n) => .inl (cI, n, .inl fun j => Int32.ofInt (z.1 id j))
  | .inr (1, n) => .inl (cJ, n, .inr (.inl fun j => Int64.ofInt (z.2.1 id j)))
  | .inr (_, n) => .inl (cD, n, .inl fun j => Int32.ofInt (z.1 id j))
def pvWs (ad : Nat → Nat) (cI cJ cD : ClassId) (L : List Nat) (z : pvM) : va_W := L.map fun id => (ad id, pvE ad cI cJ cD z id)
abbrev pvTy (cI cJ cD : ClassId) : List (ClassId × FieldType) := [(cI, .int), (cJ, .long), (cD, .byte)]
theorem pvWs_at {ad : Nat → Nat} {cI cJ cD : ClassId} {L : List Nat} {z : pvM} {k id : Nat} (h : L[k]? = some id) : (pvWs ad cI cJ cD L z)[k]? = some (ad id, pvE ad cI cJ cD z id) := by
  simp [pvWs, h]
theorem pvWs_get {ad : Nat → Nat} {cI cJ cD : ClassId} {L : List Nat} {z : pvM} {id : Nat} (h : id ∈ L) : (pvWs ad cI cJ cD L z)[L.idxOf id]? = some (ad id, pvE ad cI cJ cD z id) := by
  refine pvWs_at ?_
  rw [List.getElem?_eq_getElem (List.idxOf_lt_length_of_mem h), List.getElem_idxOf]
theorem pvWs_set {ad : Nat → Nat} {cI cJ cD : ClassId} {L : List Nat} (hL : L.Nodup) {z z' : pvM} {id : Nat} (hid : id ∈ L) {w : Nat × va_E} (hw : w = (ad id, pvE ad cI cJ cD z' id)) (he : ∀ j, j ≠ id → pvE ad cI cJ cD z' j = pvE ad cI cJ cD z j) :
    (pvWs ad cI cJ cD L z).set (L.idxOf id) w = pvWs ad cI cJ cD L z' := by
  subst hw
  apply List.ext_getElem
  · simp [pvWs]
  · intro i h1 h2
    have hi : i < L.length := by simpa [pvWs] using h2
    simp only [pvWs, List.getElem_set, List.getElem_map]
    split
    · rename_i e
      have : L[i] = id := by
        have h9 := List.getElem_idxOf (List.idxOf_lt_length_of_mem hid)
        simp only [e] at h9
        exact h9
      rw [this]
    · rename_i e
      rw [he L[i] (fun q => e ?_)]
      have h9 := List.getElem_idxOf (List.idxOf_lt_length_of_mem hid)
      exact (List.getElem_inj hL).mp (h9.trans q.symm)
theorem pvD_any {ad : Nat → Nat} {cI cJ cD : ClassId} {L : List Nat} {z z' : pvM} {A : Nat → Prop} (h : va_D A (pvWs ad cI cJ cD L z)) : va_D A (pvWs ad cI cJ cD L z') := by
  have hl : ∀ (y : pvM) (k : Nat) (q : Nat × va_E), (pvWs ad cI cJ cD L y)[k]? = some q → ∃ id, L[k]? = some id ∧ q.1 = ad id := by
    intro y k q hq
    simp only [pvWs, List.getElem?_map, Option.map_eq_some_iff] at hq
    obtain ⟨id, h1, rfl⟩ := hq
    exact ⟨id, h1, rfl⟩
  refine ⟨fun i j p q hp hq e => ?_, fun k q hq => ?_⟩
  · obtain ⟨a, h1, h2⟩ := hl _ _ _ hp
    obtain ⟨b, h3, h4⟩ := hl _ _ _ hq
    exact h.1 i j _ _ (pvWs_at h1) (pvWs_at h3) (by show ad a = ad b; rw [← h2, ← h4, e])
  · obtain ⟨a, h1, h2⟩ := hl _ _ _ hq
    rw [h2]
    exact h.2 k _ (pvWs_at h1)
def pvFOk (own : String) (Tb : List Jvm.Cond) (F : pvF) : Prop := ∀ ix ci k kd, F ix = some (ci, k, kd) → ∃ (C : String) (T : u_T) (N : Nat), vwCl[ci]? = some (C, T, N) ∧ k < N ∧ N = pvNf ci ∧ kd = pvKd ci k ∧ Cond.fieldLink own ix (T k).1 (T k).2.1 (T k).2.2.1 ∈ Tb
def pvClOk (Tb : List Jvm.Cond) : Prop := ∀ (ci : Nat) (C : String) (T : u_T) (N : Nat), vwCl[ci]? = some (C, T, N) → (∀ w ∈ u_ws C T N, w ∈ Tb) ∧ ∃ ty0 : Nat → FieldType, (∀ k, k < N → parseFieldDescriptor (T k).2.2.1 = some (ty0 k)) ∧ (∀ a, a < N → ∀ b, b < N → a ≠ b → (T a).2.1 ≠ (T b).2.1) ∧
  (∀ k, k < N → pvKd ci k = 0 → (T k).2.2.2 = false ∧ ty0 k = .int) ∧ (∀ k, k < N → pvKd ci k = 1 → (T k).2.2.2 = false ∧ ty0 k = .boolean)
theorem pvE_o {ad : Nat → Nat} {cI cJ cD : ClassId} {z : pvM} {id ci : Nat} (h : pvSh id = .inl ci) : pvE ad cI cJ cD z id = .inr (ci, (List.range (pvNf ci)).map fun k => if pvKd ci k = 2 then Value.ref (ad (pvRf id k)) else Value.int (Int32.ofInt (z.1 id k))) := by
  unfold pvE
  rw [h]
theorem pvE_i {ad : Nat → Nat} {cI cJ cD : ClassId} {z : pvM} {id n : Nat} (h : pvSh id = .inr (0, n)) : pvE ad cI cJ cD z id = .inl (cI, n, .inl fun j => Int32.ofInt (z.1 id j)) := by
  unfold pvE
  rw [h]
  rfl
theorem pvE_l {ad : Nat → Nat} {cI cJ cD : ClassId} {z : pvM} {id n : Nat} (h : pvSh id = .inr (1, n)) : pvE ad cI cJ cD z id = .inl (cJ, n, .inr (.inl fun j => Int64.ofInt (z.2.1 id j))) := by
  unfold pvE
  rw [h]
  rfl
theorem pvAI_sh {id : Nat} (h : 0 < pvAI id) : pvSh id = .inr (0, pvAI id) := by
  unfold pvAI at h ⊢
  split at h
  · rename_i n e
    rw [e]
  · omega
theorem pvAL_sh {id : Nat} (h : 0 < pvAL id) : pvSh id = .inr (1, pvAL id) := by
  unfold pvAL at h ⊢
  split at h
  · rename_i n e
    rw [e]
  · omega
theorem pvUp_ne {α : Type} {f : Nat → Nat → α} {i k a : Nat} {v : α} (h : a ≠ i) : pvUp f i k v a = f a := by
  funext b
  unfold pvUp
  rw [if_neg (fun e => h e.1)]
theorem pvUp_eq {α : Type} {f : Nat → Nat → α} {i k : Nat} {v : α} (b : Nat) : pvUp f i k v i b = if b = k then v else f i b := by
  unfold pvUp
  simp
theorem pvSt_ne {f : Nat → Nat → Int} {i a : Nat} {g : Nat → Int} (h : a ≠ i) : pvSt f i g a = f a := by
  unfold pvSt
  rw [if_neg h]
theorem pvSt_eq {f : Nat → Nat → Int} {i : Nat} {g : Nat → Int} : pvSt f i g i = g := by
  unfold pvSt
  rw [if_pos rfl]
theorem pvE_same {ad : Nat → Nat} {cI cJ cD : ClassId} {z z' : pvM} {j : Nat} (h1 : z'.1 j = z.1 j) (h2 : z'.2.1 j = z.2.1 j) (h3 : z'.2.2 j = z.2.2 j) : pvE ad cI cJ cD z' j = pvE ad cI cJ cD z j := by
  unfold pvE
  rw [h1, h2]
theorem pvFs_set {ad : Nat → Nat} {z : pvM} {id ci k : Nat} {a : Int} (hk : k < pvNf ci) (hkd : pvKd ci k ≠ 2) :
    ((List.range (pvNf ci)).map fun k => if pvKd ci k = 2 then Value.ref (ad (pvRf id k)) else Value.int (Int32.ofInt (z.1 id k))).set k (.int (Int32.ofInt a)) =
    (List.range (pvNf ci)).map fun j => if pvKd ci j = 2 then Value.ref (ad (pvRf id j)) else Value.int (Int32.ofInt (pvUp z.1 id k a id j)) := by
  apply List.ext_getElem
  · simp
  · intro i h1 h2
    simp only [List.getElem_set, List.getElem_map, List.getElem_range, pvUp_eq]
    by_cases e : k = i
    · subst e
      rw [if_pos rfl, if_neg hkd, if_pos rfl]
    · rw [if_neg e, if_neg (show ¬ i = k from fun q => e q.symm)]
theorem pv_upI {f : Nat → Nat → Int} {id k : Nat} {x : Int} : upd (fun j => Int32.ofInt (f id j)) k (Int32.ofInt x) = fun j => Int32.ofInt (pvUp f id k x id j) := by
  funext j
  simp only [upd, pvUp_eq]
  split <;> rfl
theorem pv_upL {f : Nat → Nat → Int} {id k : Nat} {x : Int} : vp_updL (fun j => Int64.ofInt (f id j)) k (Int64.ofInt x) = fun j => Int64.ofInt (pvUp f id k x id j) := by
  funext j
  simp only [vp_updL, pvUp_eq]
  split <;> rfl
/-- the law's own script (where it lies, how long it is, what it holds): cell 60, never written -/
abbrev pvSx : Type := Nat × Nat × (Nat → Int32)
def pvScx (sx : pvSx) : Nat × (Nat → Int) := (sx.2.1, fun j => (sx.2.2 j).toInt)
def pvScOk (sx : pvSx) (A : Nat → Prop) (U : State) : Prop := sx.2.1 < 2147483648 ∧ va_X sx.1 sx.2.1 sx.2.2 U U.heap ∧ sx.1 < U.heap.size ∧ ¬ A sx.1
/-- the cells of a world: no two alike, the class's among them, the script's not -/
def pvWl (L : List Nat) : Prop := L.Nodup ∧ (∀ id, id < 39 → id ∈ L) ∧ 60 ∉ L
theorem pvAn_le : ∀ id, id < 64 → pvAn id ≤ 23552 := by decide +kernel
theorem pvSh_big {id : Nat} (h : 64 ≤ id) : pvSh id = .inr (0, (id - 64) % 128) := by
  unfold pvSh
  split <;> first | omega | rfl
theorem pv_cpI {f : Nat → Nat → Int} {a b sp dp n : Nat} : va_cpy (fun j => Int32.ofInt (f a j)) (fun j => Int32.ofInt (f b j)) sp dp n = fun j => Int32.ofInt (pvSt f b (fun k => if dp ≤ k ∧ k < dp + n then f a (sp + (k - dp)) else f b k) b j) := by
  funext j
  simp only [va_cpy, pvSt_eq]
  split <;> rfl
theorem pv_cpL {f : Nat → Nat → Int} {a b sp dp n : Nat} : va_cpy (fun j => Int64.ofInt (f a j)) (fun j => Int64.ofInt (f b j)) sp dp n = fun j => Int64.ofInt (pvSt f b (fun k => if dp ≤ k ∧ k < dp + n then f a (sp + (k - dp)) else f b k) b j) := by
  funext j
  simp only [va_cpy, pvSt_eq]
  split <;> rfl
theorem pvCs_sum (ad : Nat → Nat) (st : List pvV) : ((st.map (pvRe ad)).map fun v => v.category).sum = pvCs st := by
  induction st with
  | nil => rfl
  | cons v t ih => simp only [List.map_cons, List.sum_cons, ih, pvCs, pvRe_cat]
set_option maxHeartbeats 4000000 in
theorem pvHp_ok {p : Program} {l : Launch} {e : Env} {R : Room} {s : State} {m : MethodId} {args : Array Value} {below : List Frame} {meth : Method} {c : Code} {Qm : State → Prop}
    {own : String} {cc : ByteArray} {nL : Nat} {Tb : List Jvm.Cond} {F : pvF} {Ex : pvEx} {lim : Nat → Prop} {L : List Nat} {sc : Nat × (Nat → Int)} {sx : pvSx} {ad : Nat → Nat} {D : va_G} {cI cJ cD : ClassId} {A : Nat → Prop}
    (M : pvMc own cc nL Tb p s m args meth c) (hF : pvFOk own Tb F) (hCl : pvClOk Tb) (hK : va_K D vwCl (pvTy cI cJ cD) s) (hL0 : pvWl L) (hlK : ∀ id, lim id → id ≠ 60 → id ∈ L) (hsc : lim 60 → sc = pvScx sx ∧ ad 60 = sx.1 ∧ pvScOk sx A s)
    (hcp : ∀ ix, Ex ix = some 100 ∨ Ex ix = some 101 → (Cond.methodLink own ix arraycopyName).before args s = true ∧ (Cond.native arraycopyName).before args s = true ∧ (Cond.static arraycopyName).before args s = true ∧ (Cond.initialized "java/lang/System").before args s = true ∧ 1 ≤ R.frames ∧ 8 + (nativeFrameWords "java/lang/System" "arraycopy" 5 + 11) ≤ R.locals)
    {i : Instr} {n pc : Nat} {st st' : List pvV} {z z' : pvM} {o : Prop}
    (h : pvHp lim sc F Ex i st z = some (o, st', z')) (ho : o) (hd : decode cc pc = .ok (i, n)) (hn : pvLn i n = true) (hS : pvOkS st) (hz : pvRng z) :
    pvOkS st' ∧ pvRng z' ∧ ∀ (H : Heap) (locs : List Loc) (cells slots : Nat) (ls : pvL) (arr : Array Slot), va_P D vwCl (pvWs ad cI cJ cD L z) H → va_D A (pvWs ad cI cJ cD L z) → va_S A s.heap H locs → pvLh ad ls arr nL →
      (∀ H' locs', va_P D vwCl (pvWs ad cI cJ cD L z') H' → va_S A s.heap H' locs' → W p l e R s m args below meth c H' locs' cells slots Qm (F0 m (pc + n) arr (st'.map (pvRe ad)))) →
      W p l e R s m args below meth c H locs cells slots Qm (F0 m pc arr (st.map (pvRe ad))) := by
  obtain ⟨hx, hb, hml, hown, hts, hlocks⟩ := M
  have h60 : ∀ id : Nat, lim id → id ≠ 60 → id ∈ L := hlK
  have hn60 : ∀ id : Nat, (pvSh id).isLeft = true ∨ 0 < pvAn id → id ≠ 60 := by
    rintro id h1 rfl
    rcases h1 with h1 | h1
    · cases h1
    · exact absurd h1 (by decide)
  cases i <;> first | (cases h; done) | skip
  case getfield ix =>
    obtain rfl : n = 3 := by simpa [pvLn] using hn
    simp only [pvHp] at h
    split at h
    · rename_i ci k id r hf
      simp only [Option.some.injEq, Prod.mk.injEq] at h
      obtain ⟨rfl, rfl, rfl⟩ := h
      obtain ⟨C, T, N, h1, h2, h3, h4, h5⟩ := hF ix _ _ _ hf
      have hid : id ∈ L := h60 id ho.1 (hn60 id (Or.inl (by rw [ho.2]; rfl)))
      refine ⟨pvOkS_c trivial (pvOkS_t hS), hz, fun H locs cells slots ls arr hP hD hSS hl kk => ?_⟩
      refine va_get hx hb hts (hCl _ _ _ _ h1).1 hown hK hP (L.idxOf id) (by rw [pvWs_get hid, pvE_o ho.2]) h1 k h2 (hts _ h5) (fun _ q => q) (v := Value.ref (ad (pvRf id k))) ?_ hd (kk H locs hP hSS)
      rw [List.getElem?_map, List.getElem?_range (by omega)]
      simp [← h4]
    · rename_i ci k id r hf
      simp only [Option.some.injEq, Prod.mk.injEq] at h
      obtain ⟨rfl, rfl, rfl⟩ := h
      obtain ⟨C, T, N, h1, h2, h3, h4, h5⟩ := hF ix _ _ _ hf
      have hid : id ∈ L := h60 id ho.1 (hn60 id (Or.inl (by rw [ho.2]; rfl)))
      refine ⟨pvOkS_c (hz id k) (pvOkS_t hS), hz, fun H locs cells slots ls arr hP hD hSS hl kk => ?_⟩
      refine va_get hx hb hts (hCl _ _ _ _ h1).1 hown hK hP (L.idxOf id) (by rw [pvWs_get hid, pvE_o ho.2]) h1 k h2 (hts _ h5) (fun _ q => q) (v := Value.int (Int32.ofInt (z.1 id k))) ?_ hd (kk H locs hP hSS)
      rw [List.getElem?_map, List.getElem?_range (by omega)]
      simp [← h4]
    · rename_i ci k id r hf
      simp only [Option.some.injEq, Prod.mk.injEq] at h
      obtain ⟨rfl, rfl, rfl⟩ := h
      obtain ⟨C, T, N, h1, h2, h3, h4, h5⟩ := hF ix _ _ _ hf
      have hid : id ∈ L := h60 id ho.1 (hn60 id (Or.inl (by rw [ho.2]; rfl)))
      refine ⟨pvOkS_c (hz id k) (pvOkS_t hS), hz, fun H locs cells slots ls arr hP hD hSS hl kk => ?_⟩
      refine va_get hx hb hts (hCl _ _ _ _ h1).1 hown hK hP (L.idxOf id) (by rw [pvWs_get hid, pvE_o ho.2]) h1 k h2 (hts _ h5) (fun _ q => q) (v := Value.int (Int32.ofInt (z.1 id k))) ?_ hd (kk H locs hP hSS)
      rw [List.getElem?_map, List.getElem?_range (by omega)]
      simp [← h4]
    · cases h
  case putfield ix =>
    obtain rfl : n = 3 := by simpa [pvLn] using hn
    simp only [pvHp] at h
    split at h
    · rename_i ci k a id r hf
      simp only [Option.some.injEq, Prod.mk.injEq] at h
      obtain ⟨rfl, rfl, rfl⟩ := h
      obtain ⟨C, T, N, h1, h2, h3, h4, h5⟩ := hF ix _ _ _ hf
      obtain ⟨hw, ty0, t1, t2, t3, t4⟩ := hCl _ _ _ _ h1
      have hid : id ∈ L := h60 id ho.1 (hn60 id (Or.inl (by rw [ho.2]; rfl)))
      refine ⟨pvOkS_t (pvOkS_t hS), pvRng_up hz (pvOkS_h hS), fun H locs cells slots ls arr hP hD hSS hl kk => ?_⟩
      refine va_put hx hb hts hw ty0 t1 t2 hown hK hP hD hSS (L.idxOf id) (by rw [pvWs_get hid, pvE_o ho.2]) h1 k h2 (hts _ h5) (fun _ q => q) (t3 k h2 h4.symm).1 (ty := .int) (v := .int (Int32.ofInt a)) (by rw [t1 k h2, (t3 k h2 h4.symm).2]) rfl rfl (by simp; omega) hd (fun H1 locs1 hP1 hD1 hS1 => ?_)
      rw [pvFs_set (by omega) (by omega), pvWs_set hL0.1 hid (z := z) (z' := (pvUp z.1 id k a, z.2)) (by rw [pvE_o ho.2]) (fun j hj => pvE_same (pvUp_ne hj) rfl rfl)] at hP1
      exact kk H1 locs1 hP1 hS1
    · rename_i ci k a id r hf
      simp only [Option.some.injEq, Prod.mk.injEq] at h
      obtain ⟨rfl, rfl, rfl⟩ := h
      obtain ⟨C, T, N, h1, h2, h3, h4, h5⟩ := hF ix _ _ _ hf
      obtain ⟨hw, ty0, t1, t2, t3, t4⟩ := hCl _ _ _ _ h1
      have hid : id ∈ L := h60 id ho.1 (hn60 id (Or.inl (by rw [ho.2.1]; rfl)))
      refine ⟨pvOkS_t (pvOkS_t hS), pvRng_up hz (pvOkS_h hS), fun H locs cells slots ls arr hP hD hSS hl kk => ?_⟩
      refine va_put hx hb hts hw ty0 t1 t2 hown hK hP hD hSS (L.idxOf id) (by rw [pvWs_get hid, pvE_o ho.2.1]) h1 k h2 (hts _ h5) (fun _ q => q) (t4 k h2 h4.symm).1 (ty := .boolean) (v := .int (Int32.ofInt a)) (by rw [t1 k h2, (t4 k h2 h4.symm).2]) (by rcases ho.2.2 with rfl | rfl <;> rfl) (by rcases ho.2.2 with rfl | rfl <;> rfl) (by simp; omega) hd (fun H1 locs1 hP1 hD1 hS1 => ?_)
      rw [pvFs_set (by omega) (by omega), pvWs_set hL0.1 hid (z := z) (z' := (pvUp z.1 id k a, z.2)) (by rw [pvE_o ho.2.1]) (fun j hj => pvE_same (pvUp_ne hj) rfl rfl)] at hP1
      exact kk H1 locs1 hP1 hS1
    · cases h
  case iaload =>
    obtain rfl : n = 1 := by simpa [pvLn] using hn
    simp only [pvHp] at h
    split at h
    · rename_i a id r
      have ha : pvR a := pvOkS_h hS
      split at h
      · rename_i h6
        subst h6
        simp only [Option.some.injEq, Prod.mk.injEq] at h
        obtain ⟨rfl, rfl, rfl⟩ := h
        obtain ⟨rfl, e60, hL1, hX, hbl, hbA⟩ := hsc ho.1
        rw [← e60] at hX hbl hbA
        refine ⟨pvOkS_c (pvR_to _) (pvOkS_t (pvOkS_t hS)), hz, fun H locs cells slots ls arr hP hD hSS hl kk => ?_⟩
        refine va_sld hx hb hX hbl hbA hSS (pvN_in ha ho.2.1 ho.2.2) hd ?_
        rw [pvN_nat ha]
        have q9 := kk H locs hP hSS
        simp only [List.map_cons, pvRe, pvScx, pvN_to] at q9
        exact q9
      · rename_i h6
        simp only [Option.some.injEq, Prod.mk.injEq] at h
        obtain ⟨rfl, rfl, rfl⟩ := h
        have hid : id ∈ L := h60 id ho.1 h6
        have hsh := pvAI_sh (id := id) (by omega)
        refine ⟨pvOkS_c (hz id _) (pvOkS_t (pvOkS_t hS)), hz, fun H locs cells slots ls arr hP hD hSS hl kk => ?_⟩
        refine va_iald hx hb hK hP (L.idxOf id) 0 (by rw [pvWs_get hid, pvE_i hsh]) rfl (pvN_in ha ho.2.1 ho.2.2) hd ?_
        rw [pvN_nat ha]
        exact kk H locs hP hSS
    · cases h
  case laload =>
    obtain rfl : n = 1 := by simpa [pvLn] using hn
    simp only [pvHp] at h
    split at h
    · rename_i a id r
      have ha : pvR a := pvOkS_h hS
      simp only [Option.some.injEq, Prod.mk.injEq] at h
      obtain ⟨rfl, rfl, rfl⟩ := h
      have hsh := pvAL_sh (id := id) (by omega)
      have hid : id ∈ L := h60 id ho.1 (hn60 id (Or.inr (by unfold pvAn; rw [hsh]; show 0 < pvAL id; omega)))
      refine ⟨pvOkS_c trivial (pvOkS_t (pvOkS_t hS)), hz, fun H locs cells slots ls arr hP hD hSS hl kk => ?_⟩
      refine va_lald hx hb hK hP (L.idxOf id) 1 (by rw [pvWs_get hid, pvE_l hsh]) rfl (pvN_in ha ho.2.1 ho.2.2) hd ?_
      rw [pvN_nat ha]
      exact kk H locs hP hSS
    · cases h
  case iastore =>
    obtain rfl : n = 1 := by simpa [pvLn] using hn
    simp only [pvHp] at h
    split at h
    · rename_i x a id r
      have ha : pvR a := pvOkS_h (pvOkS_t hS)
      simp only [Option.some.injEq, Prod.mk.injEq] at h
      obtain ⟨rfl, rfl, rfl⟩ := h
      have hsh := pvAI_sh (id := id) (by omega)
      have hid : id ∈ L := h60 id ho.1 (hn60 id (Or.inr (by unfold pvAn; rw [hsh]; show 0 < pvAI id; omega)))
      refine ⟨pvOkS_t (pvOkS_t (pvOkS_t hS)), pvRng_up hz (pvOkS_h hS), fun H locs cells slots ls arr hP hD hSS hl kk => ?_⟩
      refine va_iast hx hb hK hP hD hSS (L.idxOf id) 0 (by rw [pvWs_get hid, pvE_i hsh]) rfl (pvN_in ha ho.2.1 ho.2.2) hd (fun H1 locs1 hP1 hD1 hS1 => ?_)
      rw [pvN_nat ha, pv_upI, pvWs_set hL0.1 hid (z := z) (z' := (pvUp z.1 id a.toNat x, z.2)) (by rw [pvE_i hsh]) (fun j hj => pvE_same (pvUp_ne hj) rfl rfl)] at hP1
      exact kk H1 locs1 hP1 hS1
    · cases h
  case lastore =>
    obtain rfl : n = 1 := by simpa [pvLn] using hn
    simp only [pvHp] at h
    split at h
    · rename_i x a id r
      have ha : pvR a := pvOkS_h (pvOkS_t hS)
      simp only [Option.some.injEq, Prod.mk.injEq] at h
      obtain ⟨rfl, rfl, rfl⟩ := h
      have hsh := pvAL_sh (id := id) (by omega)
      have hid : id ∈ L := h60 id ho.1 (hn60 id (Or.inr (by unfold pvAn; rw [hsh]; show 0 < pvAL id; omega)))
      refine ⟨pvOkS_t (pvOkS_t (pvOkS_t hS)), hz, fun H locs cells slots ls arr hP hD hSS hl kk => ?_⟩
      refine va_last hx hb hK hP hD hSS (L.idxOf id) 1 (by rw [pvWs_get hid, pvE_l hsh]) rfl (pvN_in ha ho.2.1 ho.2.2) hd (fun H1 locs1 hP1 hD1 hS1 => ?_)
      rw [pvN_nat ha, pv_upL, pvWs_set hL0.1 hid (z := z) (z' := (z.1, pvUp z.2.1 id a.toNat x, z.2.2)) (by rw [pvE_l hsh]) (fun j hj => pvE_same rfl (pvUp_ne hj) rfl)] at hP1
      exact kk H1 locs1 hP1 hS1
    · cases h
  case arraylength =>
    obtain rfl : n = 1 := by simpa [pvLn] using hn
    simp only [pvHp] at h
    split at h
    · rename_i id r
      split at h
      · rename_i h6
        subst h6
        simp only [Option.some.injEq, Prod.mk.injEq] at h
        obtain ⟨rfl, rfl, rfl⟩ := h
        obtain ⟨rfl, e60, hL1, hX, hbl, hbA⟩ := hsc ho
        rw [← e60] at hX hbl hbA
        refine ⟨pvOkS_c (show pvR _ from ⟨by show (-2147483648 : Int) ≤ ((sx.2.1 : Nat) : Int); omega, by show ((sx.2.1 : Nat) : Int) ≤ 2147483647; omega⟩) (pvOkS_t hS), hz, fun H locs cells slots ls arr hP hD hSS hl kk => ?_⟩
        exact va_slen hx hb hX hbl hbA hSS hd (kk H locs hP hSS)
      · rename_i h6
        simp only [Option.some.injEq, Prod.mk.injEq] at h
        obtain ⟨rfl, rfl, rfl⟩ := h
        have hid : id ∈ L := h60 id ho.1 h6
        have hle : (pvAn id : Int) ≤ 2147483647 := by
          by_cases h64 : 64 ≤ id
          · exact ho.2.2 h64
          · have := pvAn_le id (by omega)
            omega
        refine ⟨pvOkS_c (show pvR _ from ⟨by omega, hle⟩) (pvOkS_t hS), hz, fun H locs cells slots ls arr hP hD hSS hl kk => ?_⟩
        rcases hsh : pvSh id with ci | ⟨t, k⟩
        · exfalso
          rcases ho.2.1 with h9 | h9
          · exact h9 (by unfold pvAn; rw [hsh])
          · rw [pvSh_big h9] at hsh
            cases hsh
        · have hk : pvAn id = k := by unfold pvAn; rw [hsh]
          rcases t with _ | _ | t
          · exact va_alen hx hb hK hP (L.idxOf id) 0 (by rw [pvWs_get hid, pvE_i hsh]) rfl (by rw [hk]; rfl) hd (kk H locs hP hSS)
          · exact va_alen hx hb hK hP (L.idxOf id) 1 (by rw [pvWs_get hid, pvE_l hsh]) rfl (by rw [hk]; rfl) hd (kk H locs hP hSS)
          · refine va_alen (x := (k, .inl fun j => Int32.ofInt (z.1 id j))) hx hb hK hP (L.idxOf id) 2 (cA := cD) (ty := .byte) (by rw [pvWs_get hid]; unfold pvE; rw [hsh]; rfl) rfl (v := Int32.ofInt (pvAn id : Int)) (by rw [hk]; rfl) hd (kk H locs hP hSS)
    · cases h
  case invokestatic ix =>
    obtain rfl : n = 3 := by simpa [pvLn] using hn
    simp only [pvHp] at h
    split at h
    · rename_i hE
      split at h
      · rename_i n dp b sp a r
        simp only [Option.some.injEq, Prod.mk.injEq] at h
        obtain ⟨rfl, rfl, rfl⟩ := h
        obtain ⟨o1, o2, o3, o4, o5, o6, o7, o8, o9, o10⟩ := ho
        obtain ⟨c1, c2, c3, c4, c5, c6⟩ := hcp ix (Or.inl hE)
        have hna : pvR n := pvOkS_h hS
        have hdp : pvR dp := pvOkS_h (pvOkS_t hS)
        have hsp : pvR sp := pvOkS_h (pvOkS_t (pvOkS_t (pvOkS_t hS)))
        have hsa := pvAI_sh o8
        have hsb := pvAI_sh o9
        have ha : a ∈ L := h60 a o1 (hn60 a (Or.inr (by unfold pvAn; rw [hsa]; exact o8)))
        have hb9 : b ∈ L := h60 b o2 (hn60 b (Or.inr (by unfold pvAn; rw [hsb]; exact o9)))
        refine ⟨pvOkS_t (pvOkS_t (pvOkS_t (pvOkS_t (pvOkS_t hS)))), ?_, fun H locs cells slots ls arr hP hD hSS hl kk => ?_⟩
        · intro i k
          show pvR (pvSt z.1 b _ i k)
          unfold pvSt
          split
          · dsimp only
            split
            · exact hz _ _
            · exact hz _ _
          · exact hz _ _
        · refine va_copyi hx hb (by rw [hml]; exact hl.1.1.symm) hown c1 c2 c3 c4 hK hP hD hSS (L.idxOf a) (L.idxOf b) 0 0 (by rw [pvWs_get ha, pvE_i hsa]) (by rw [pvWs_get hb9, pvE_i hsb]) rfl rfl rfl (pvN_n0 hsp o3) (pvN_n0 hdp o4) (pvN_n0 hna o5) (by rw [pvN_nat hsp, pvN_nat hna]; omega) (by rw [pvN_nat hdp, pvN_nat hna]; omega) (fun _ _ => rfl) c5 (by rw [pvCs_sum]; omega) hd (fun H1 locs1 hP1 hD1 hS1 => ?_)
          rw [pvN_nat hsp, pvN_nat hdp, pvN_nat hna, pv_cpI, pvWs_set hL0.1 hb9 (z := z) (z' := (pvSt z.1 b (fun k => if dp.toNat ≤ k ∧ k < dp.toNat + n.toNat then z.1 a (sp.toNat + (k - dp.toNat)) else z.1 b k), z.2)) (by rw [pvE_i hsb]) (fun j hj => pvE_same (pvSt_ne hj) rfl rfl)] at hP1
          exact kk H1 locs1 hP1 hS1
      · cases h
    · split at h
      · rename_i hE
        split at h
        · rename_i n dp b sp a r
          simp only [Option.some.injEq, Prod.mk.injEq] at h
          obtain ⟨rfl, rfl, rfl⟩ := h
          obtain ⟨o1, o2, o3, o4, o5, o6, o7, o8, o9, o10⟩ := ho
          obtain ⟨c1, c2, c3, c4, c5, c6⟩ := hcp ix (Or.inr hE)
          have hna : pvR n := pvOkS_h hS
          have hdp : pvR dp := pvOkS_h (pvOkS_t hS)
          have hsp : pvR sp := pvOkS_h (pvOkS_t (pvOkS_t (pvOkS_t hS)))
          have hsa := pvAL_sh o8
          have hsb := pvAL_sh o9
          have ha : a ∈ L := h60 a o1 (hn60 a (Or.inr (by unfold pvAn; rw [hsa]; exact o8)))
          have hb9 : b ∈ L := h60 b o2 (hn60 b (Or.inr (by unfold pvAn; rw [hsb]; exact o9)))
          refine ⟨pvOkS_t (pvOkS_t (pvOkS_t (pvOkS_t (pvOkS_t hS)))), hz, fun H locs cells slots ls arr hP hD hSS hl kk => ?_⟩
          refine va_copyl hx hb (by rw [hml]; exact hl.1.1.symm) hown c1 c2 c3 c4 hK hP hD hSS (L.idxOf a) (L.idxOf b) 1 1 (by rw [pvWs_get ha, pvE_l hsa]) (by rw [pvWs_get hb9, pvE_l hsb]) rfl rfl rfl (pvN_n0 hsp o3) (pvN_n0 hdp o4) (pvN_n0 hna o5) (by rw [pvN_nat hsp, pvN_nat hna]; omega) (by rw [pvN_nat hdp, pvN_nat hna]; omega) (fun _ _ => rfl) c5 (by rw [pvCs_sum]; omega) hd (fun H1 locs1 hP1 hD1 hS1 => ?_)
          rw [pvN_nat hsp, pvN_nat hdp, pvN_nat hna, pv_cpL, pvWs_set hL0.1 hb9 (z := z) (z' := (z.1, pvSt z.2.1 b (fun k => if dp.toNat ≤ k ∧ k < dp.toNat + n.toNat then z.2.1 a (sp.toNat + (k - dp.toNat)) else z.2.1 b k), z.2.2)) (by rw [pvE_l hsb]) (fun j hj => pvE_same rfl (pvSt_ne hj) rfl)] at hP1
          exact kk H1 locs1 hP1 hS1
        · cases h
      · cases h
