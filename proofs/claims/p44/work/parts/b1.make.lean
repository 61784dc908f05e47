/-! arrays of the law: new ones, and back to the world without them -/
theorem fr_le (L : List Nat) : ∀ x ∈ L, x ≤ L.sum := by
  induction L with
  | nil => intro x h; cases h
  | cons a t ih =>
    intro x h
    rw [List.sum_cons]
    rcases List.mem_cons.mp h with rfl | h
    · omega
    · have := ih x h
      omega
theorem fr_id (L : List Nat) (n : Nat) (hn : n < 128) : ∃ id, 64 ≤ id ∧ id ∉ L ∧ pvSh id = .inr (0, n) := by
  refine ⟨64 + n + 128 * (L.sum + 1), by omega, fun h => ?_, ?_⟩
  · have := fr_le L _ h
    omega
  · rw [pvSh_big (by omega), show (64 + n + 128 * (L.sum + 1) - 64) % 128 = n by omega]
theorem pvRf_lt (id k : Nat) : pvRf id k < 39 := by
  unfold pvRf
  split <;> decide
/-- the row of a new cell is zero -/
def pvZr (z : pvM) (id : Nat) : pvM := (fun i k => if i = id then 0 else z.1 i k, z.2)
theorem pvZr_at (z : pvM) (id : Nat) : (pvZr z id).1 id = fun _ => 0 := by
  funext k
  exact if_pos rfl
theorem pvZr_ne (z : pvM) {id i : Nat} (h : i ≠ id) : (pvZr z id).1 i = z.1 i := by
  funext k
  exact if_neg h
theorem pvZr_rng {z : pvM} (h : pvRng z) (id : Nat) : pvRng (pvZr z id) := by
  intro i k
  show pvR (if i = id then 0 else z.1 i k)
  split
  · exact ⟨by decide, by decide⟩
  · exact h i k
theorem pvE_cg {ad ad' : Nat → Nat} {cI cJ cD : ClassId} {z z' : pvM} {id i : Nat} (h64 : 64 ≤ id) (ha : ∀ j, j ≠ id → ad' j = ad j) (hz : z'.1 i = z.1 i) (h2 : z'.2 = z.2) : pvE ad' cI cJ cD z' i = pvE ad cI cJ cD z i := by
  unfold pvE
  rw [hz, h2]
  split
  · congr 2
    apply List.map_congr_left
    intro k _
    have := pvRf_lt i k
    rw [ha (pvRf i k) (by omega)]
  · rfl
  · rfl
  · rfl
theorem pvWs_cg {ad ad' : Nat → Nat} {cI cJ cD : ClassId} {L : List Nat} {z z' : pvM} {id : Nat} (h64 : 64 ≤ id) (hid : id ∉ L) (ha : ∀ j, j ≠ id → ad' j = ad j) (hz : ∀ i, i ∈ L → z'.1 i = z.1 i) (h2 : z'.2 = z.2) : pvWs ad' cI cJ cD L z' = pvWs ad cI cJ cD L z := by
  unfold pvWs
  apply List.map_congr_left
  intro i hi
  rw [pvE_cg h64 ha (hz i hi) h2, ha i (fun e => hid (e ▸ hi))]
theorem pvWs_snoc {ad : Nat → Nat} {cI cJ cD : ClassId} {L : List Nat} {z : pvM} {id : Nat} : pvWs ad cI cJ cD (L ++ [id]) z = pvWs ad cI cJ cD L z ++ [(ad id, pvE ad cI cJ cD z id)] := by
  simp [pvWs]
theorem va_P_l {D : va_G} {ws w1 : va_W} {H : Heap} (h : va_P D vwCl (ws ++ w1) H) : va_P D vwCl ws H := by
  intro k q hq
  exact h k q (sb_ap hq)
/-- back to the world without the new cell -/
theorem pvWs_drop {D : va_G} {ad ad' : Nat → Nat} {cI cJ cD : ClassId} {L : List Nat} {z : pvM} {id : Nat} {H : Heap} (h64 : 64 ≤ id) (hid : id ∉ L) (ha : ∀ j, j ≠ id → ad' j = ad j) (h : va_P D vwCl (pvWs ad' cI cJ cD (L ++ [id]) z) H) : va_P D vwCl (pvWs ad cI cJ cD L z) H := by
  rw [pvWs_snoc, pvWs_cg h64 hid ha (fun _ _ => rfl) rfl] at h
  exact va_P_l h
theorem pvWl_new {L : List Nat} {id : Nat} (h : pvWl L) (h64 : 64 ≤ id) (hid : id ∉ L) : pvWl (L ++ [id]) := by
  obtain ⟨h1, h2, h3⟩ := h
  refine ⟨List.nodup_append.mpr ⟨h1, by simp, fun a ha b hb e => ?_⟩, fun i hi => List.mem_append_left _ (h2 i hi), fun h => ?_⟩
  · rw [List.mem_singleton.mp hb] at e
    exact hid (e ▸ ha)
  · rcases List.mem_append.mp h with h | h
    · exact h3 h
    · have := List.mem_singleton.mp h
      omega
theorem pvLm_new {L : List Nat} {id i : Nat} : pvLm (L ++ [id]) i ↔ pvLm L i ∨ i = id := by
  unfold pvLm
  rw [List.mem_append, List.mem_singleton]
  constructor
  · rintro ((h | h) | h)
    · exact Or.inl (Or.inl h)
    · exact Or.inr h
    · exact Or.inl (Or.inr h)
  · rintro ((h | h) | h)
    · exact Or.inl (Or.inl h)
    · exact Or.inr h
    · exact Or.inl (Or.inr h)
theorem pvLh_ad {ad ad' : Nat → Nat} {ls : pvL} {arr : Array Slot} {nL id : Nat} (h : pvLh ad ls arr nL) (ha : ∀ j, j ≠ id → ad' j = ad j) (hls : ∀ k, pvLd ls k ≠ some (vR id)) : pvLh ad' ls arr nL := by
  refine ⟨?_, h.2⟩
  have e : pvAr ad' ls = pvAr ad ls := by
    unfold pvAr
    apply List.map_congr_left
    rintro ⟨k, v⟩ hq
    have hk := (pvAs_mem ls 0 (k, v)).mp hq
    rcases v with a | a | a | a | a <;> try rfl
    have hne : a ≠ id := by
      rintro rfl
      exact hls k (by simpa using hk.2)
    show (k, Value.ref (ad' a)) = (k, Value.ref (ad a))
    rw [ha a hne]
  rw [e]
  exact h.1
set_option maxHeartbeats 1000000 in
/-- a new row of numbers in a world -/
theorem tw_new {p : Program} {l : Launch} {e : Env} {R : Room} {s : State} {m : MethodId} {args : Array Value} {below : List Frame} {meth : Method} {c : Code} {H H0 : Heap} {locs : List Loc} {cells slots : Nat} {Q : State → Prop} {cc : ByteArray} {D : va_G} {cI cJ cD : ClassId} {A : Nat → Prop} {pc nL : Nat} {arr : Array Slot} {rest : List Value} {own : String}
    (M : pvMc own cc nL pvTb p s m args meth c) (hK : va_K D vwCl (pvTy cI cJ cD) s) {ad : Nat → Nat} {L : List Nat} {z : pvM} (hL0 : pvWl L) (hP : va_P D vwCl (pvWs ad cI cJ cD L z) H) (hD : va_D A (pvWs ad cI cJ cD L z)) (hS : va_S A H0 H locs) (hA : ∀ q, H0.size ≤ q → A q)
    {x : Int32} {n : Nat} (hx : x = Int32.ofNat n) (hn : n < 128) (hcells : cells + 1 ≤ R.cells) (hslots : slots + n ≤ R.slots) (hdg : decode cc pc = .ok (.newarray .int, 2))
    (kk : ∀ (ad' : Nat → Nat) (id : Nat) (H1 : Heap), 64 ≤ id → id ∉ L → pvSh id = .inr (0, n) → pvAI id = n → (∀ j, j ≠ id → ad' j = ad j) → pvWl (L ++ [id]) → va_P D vwCl (pvWs ad' cI cJ cD (L ++ [id]) (pvZr z id)) H1 → va_D A (pvWs ad' cI cJ cD (L ++ [id]) (pvZr z id)) → va_S A H0 H1 locs →
      W p l e R s m args below meth c H1 locs (cells + 1) (slots + n) Q (F0 m (pc + 2) arr (.ref (ad' id) :: rest))) : W p l e R s m args below meth c H locs cells slots Q (F0 m pc arr (.int x :: rest)) := by
  obtain ⟨hx9, hb, hml, hown, hts, hlocks⟩ := M
  subst hx
  refine pv_newa (atype := .int) (ty := .int) (N' := n) (a0 := (n, .inl fun _ => (0 : Int32))) hx9 hb (hts _ wd_1_48) rfl hK (j := 0) rfl hP hD hS hA (fun _ => rfl) (sb_ng (by omega)) (sb_cn (by omega)) (by show n * 4 ≤ _; omega) hcells hslots hdg (fun q H1 hP1 hD1 hS1 => ?_)
  obtain ⟨id, h64, hid, hsh⟩ := fr_id L n hn
  obtain ⟨ad', had⟩ : ∃ ad' : Nat → Nat, ad' = fun j => if j = id then q else ad j := ⟨_, rfl⟩
  have ha : ∀ j, j ≠ id → ad' j = ad j := fun j hj => by rw [had]; exact if_neg hj
  have hq : ad' id = q := by rw [had]; exact if_pos rfl
  have e1 : pvWs ad' cI cJ cD (L ++ [id]) (pvZr z id) = pvWs ad cI cJ cD L z ++ [(q, .inl (cI, n, .inl fun _ => (0 : Int32)))] := by
    have e2 : pvWs ad' cI cJ cD L (pvZr z id) = pvWs ad cI cJ cD L z := pvWs_cg h64 hid ha (fun i hi => pvZr_ne z (fun e => hid (by rw [← e]; exact hi))) rfl
    rw [pvWs_snoc, e2, hq, pvE_i hsh, pvZr_at]
    rfl
  rw [← hq]
  exact kk ad' id H1 h64 hid hsh (by unfold pvAI; rw [hsh]; rfl) ha (pvWl_new hL0 h64 hid) (by rw [e1]; exact hP1) (by rw [e1]; exact hD1) hS1
set_option maxHeartbeats 4000000 in
/-- what a method of the law owes at its end: numbers and truth values -/
theorem pvRt_L {p : Program} {l : Launch} {e : Env} {rm : Room} {s : State} {m : MethodId} {args : Array Value} {below : List Frame} {meth : Method} {c : Code} {cc : ByteArray} {co : Nat} {ret : Option FieldType} {Q : pvO → pvM → Prop} {ad ad' : Nat → Nat} {D : va_G} {cI cJ cD : ClassId} {L L' : List Nat} {A : Nat → Prop}
    (hx : p.tables.exec = Jvm.exec) (hb : c.code = cc) (hr : meth.sig.returnType = ret) (hlocks : meth.locks = false) (hret9 : ret = some .int ∨ ret = some .boolean)
    (hdrop : ∀ z H, va_P D vwCl (pvWs ad' cI cJ cD L' z) H → va_P D vwCl (pvWs ad cI cJ cD L z) H) (h1 : 1 ≤ co) :
    ∀ (i : Instr) (v : Option pvV) (pc g : Nat) (z : pvM), pvRk i v = true → decode cc pc = .ok (i, 1) → pvRtG co ret Q v z g → (∀ x, v = some x → pvOk x) → pvRng z → ∀ (H : Heap) (locs : List Loc) (arr : Array Slot), va_P D vwCl (pvWs ad' cI cJ cD L' z) H → va_S A s.heap H locs →
      W p l e rm s m args below meth c H locs (0 + g) (0 + 6 * g) (MQ below (pvQc ad D cI cJ cD L A co Q) args s (max 1 co) (6 * max 1 co) A) (F0 m pc arr (v.map (pvRe ad')).toList) := by
  intro i v pc g z' hrk hd hret hok hrz H locs arr hP' hSS
  obtain ⟨hg, hrv, hq⟩ := hret
  have em : max 1 co = co := by omega
  rw [em]
  refine W.widen (show 0 + g ≤ co by omega) (show 0 + 6 * g ≤ 6 * co by omega) ?_
  have hl2 := hSS.2.2
  have hfin : ∀ a : Int, v = some (vI a) → ∀ t : State, t.heap = H → s.WarmedH t.vm → pvQc ad D cI cJ cD L A co Q args s (.returned (some (.int (Int32.ofInt a)))) t := by
    rintro a rfl t ht hW
    exact ⟨some (vI a), z', rfl, hok, hrz, hq, by rw [ht]; exact hdrop _ _ hP', hSS.F ht, fun h => absurd h (by omega)⟩
  rcases v with _ | (a | a | a | a | a)
  · rcases hret9 with rfl | rfl <;> exact hrv.elim
  · cases i <;> first | (cases hrk; done) | skip
    rcases hret9 with rfl | rfl
    · exact W.iret hx hb hr (hfin a rfl) hl2 hd hlocks
    · exact W.zret (ty := .boolean) hx hb hr (by rcases hrv with rfl | rfl <;> rfl) (hfin a rfl) hl2 hd hlocks
  · rcases hret9 with rfl | rfl <;> exact hrv.elim
  · rcases hret9 with rfl | rfl <;> exact hrv.elim
  · rcases hret9 with rfl | rfl <;> exact hrv.elim
  · rcases hret9 with rfl | rfl <;> exact hrv.elim
