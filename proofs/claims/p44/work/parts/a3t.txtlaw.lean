/-! texts in the law: making and reading them -/
def tbF (f : Nat → Int32) (xs : List Nat) : Prop := ∀ j, j < xs.length → f j = Int32.ofNat (xs.getD j 0)
def tbX (xs : List Nat) : Nat → Nat := fun j => xs.getD j 0
abbrev tbL (A : Nat → Prop) (a b : Nat) (xs : List Nat) (U : State) (H : Heap) : Prop := sbQ A a b xs.length (fun j => Int32.ofNat (tbX xs j)) U H
theorem tb_l {xs ys : List Nat} {j : Nat} (h : j < xs.length) : (xs ++ ys).getD j 0 = xs.getD j 0 := by
  rw [List.getD_eq_getElem?_getD, List.getD_eq_getElem?_getD, List.getElem?_append_left h]
theorem tb_r {xs ys : List Nat} {j : Nat} (h : xs.length ≤ j) : (xs ++ ys).getD j 0 = ys.getD (j - xs.length) 0 := by
  rw [List.getD_eq_getElem?_getD, List.getD_eq_getElem?_getD, List.getElem?_append_right h]
theorem tbF_cat {f : Nat → Int32} {xs ys : List Nat} (h : tbF f xs) : tbF (va_cpy (fun j => Int32.ofNat (tbX ys j)) f 0 xs.length ys.length) (xs ++ ys) := by
  intro j hj
  rw [List.length_append] at hj
  unfold va_cpy
  by_cases q : j < xs.length
  · rw [if_neg (by omega), h j q, tb_l q]
  · rw [if_pos (by omega), tb_r (by omega)]
    show Int32.ofNat (ys.getD (0 + (j - xs.length)) 0) = _
    rw [Nat.zero_add]
theorem tbF_num {f : Nat → Int32} {xs : List Nat} {y : Nat} (h : tbF f xs) : tbF (upd f xs.length (Int32.ofNat y)) (xs ++ [y]) := by
  intro j hj
  simp only [List.length_append, List.length_cons, List.length_nil] at hj
  unfold upd
  by_cases q : j < xs.length
  · rw [if_neg (by omega), h j q, tb_l q]
  · obtain rfl : j = xs.length := by omega
    rw [if_pos rfl, tb_r (by omega), Nat.sub_self]
    rfl
theorem tbX_lt {xs : List Nat} (h : ∀ x ∈ xs, x < 128) (j : Nat) (hj : j < xs.length) : tbX xs j < 128 := by
  unfold tbX
  rw [List.getD_eq_getElem?_getD, List.getElem?_eq_getElem hj]
  exact h _ (List.getElem_mem hj)
/-- what a builder's methods may change -/
def sbA1 (h d z : Nat) : Nat → Prop := fun q => q = h ∨ q = d ∨ z ≤ q
theorem sbA1_in {A : Nat → Prop} {h d z : Nat} {k : Int32} {cD : ClassId} {f : Nat → Int32} (hD : va_D A [sbB h d k, sbY cD d f]) (hz : ∀ q, z ≤ q → A q) : ∀ q, sbA1 h d z q → A q := by
  intro q hq
  rcases hq with rfl | rfl | hq
  · exact hD.2 0 _ rfl
  · exact hD.2 1 _ rfl
  · exact hz q hq
theorem sbA1_D {A : Nat → Prop} {h d z : Nat} {k : Int32} {cD : ClassId} {f : Nat → Int32} (hD : va_D A [sbB h d k, sbY cD d f]) : va_D (sbA1 h d z) [sbB h d k, sbY cD d f] := by
  refine ⟨hD.1, fun i q hq => ?_⟩
  rcases i with _ | _ | i
  · cases hq; exact Or.inl rfl
  · cases hq; exact Or.inr (Or.inl rfl)
  · simp at hq
/-- a String of a world, read from outside -/
theorem sbQ_of {D : va_G} {cI cJ cD : ClassId} {s : State} {args : Array Value} {ws : va_W} {H : Heap} {i j a b n : Nat} {f : Nat → Int32} {B : Nat → Prop} (hts : ∀ w ∈ pvTb, w.before args s = true) (hK : va_K D vwCl (pvTy cI cJ cD) s) (hP : va_P D vwCl ws H) (hi : ws[i]? = some (a, .inr (9, [.ref b, .int 0, .int 0, .int 0]))) (hj : ws[j]? = some (b, .inl (cD, n, .inl f))) (hn : n < 2 ^ 31) (h1 : ¬ B a) (h2 : ¬ B b) : sbQ B a b n f s H := by
  obtain ⟨r, g1, cell, q1, q2, q3, q4⟩ := hP i _ hi
  have hr : r = (RJ0, TJ0, 4) := (Option.some.inj g1).symm
  subst hr
  obtain ⟨hS, hfc, kC, hkC, hkind⟩ := hK.1 9 _ rfl
  have fd : ∀ k, k < 4 → va_OF (TJ0 k).1 (TJ0 k).2.1 (TJ0 k).2.2.1 (vp_V [.ref b, .int 0, .int 0, .int 0] k) a B s H := by
    intro k hk
    obtain ⟨cf, kf, fi, f9, hi9, hsl⟩ := hS k hk
    have e9 : cell.slots[f9.slot]? = some (vp_V [.ref b, .int 0, .int 0, .int 0] k) := by rw [hsl]; exact q4 k hk
    exact ⟨cf, kf, fi, f9, cell, hi9, (u_facts hfc hkC (u_lays hts wsok_J0 hk) hi9).1, q1, (by rw [q3]; intro h; cases h), e9, h1⟩
  exact ⟨⟨cell, q1, by rw [q3]; rfl, by rw [q2]; exact hfc, h1⟩, fd 1 (by decide), fd 0 (by decide), sbT_of hK hP hj hn h2⟩
theorem sbQ_ext {A : Nat → Prop} {a b n : Nat} {f g : Nat → Int32} {U : State} {H : Heap} (h : sbQ A a b n f U H) (e : ∀ j, j < n → f j = g j) : sbQ A a b n g U H := by
  obtain ⟨h1, h2, h3, cell, g1, g2, g3, g4, g5, g6, g7⟩ := h
  exact ⟨h1, h2, h3, cell, g1, g2, g3, g4, g5, fun j hj => by rw [g6 j hj]; show some (Value.int (f j)) = some (Value.int (g j)); rw [e j hj], g7⟩
/-- old cells stay -/
def sbFr (H0 H : Heap) : Prop := H0.size ≤ H.size ∧ ∀ q : Nat, q < H0.size → H[q]? = H0[q]?
theorem sbFr.rf (H : Heap) : sbFr H H := ⟨Nat.le_refl _, fun _ _ => rfl⟩
theorem sbFr.tr {H0 H H1 : Heap} (h : sbFr H0 H) (h1 : sbFr H H1) : sbFr H0 H1 := ⟨Nat.le_trans h.1 h1.1, fun q hq => by rw [h1.2 q (Nat.lt_of_lt_of_le hq h.1), h.2 q hq]⟩
/-- a text that was there before a builder was made -/
theorem tbL_old {H0 H : Heap} {a b h d : Nat} {xs : List Nat} {s : State} (hq : tbL (fun q => H0.size ≤ q) a b xs s H0) (hf : sbFr H0 H) (hh : H0.size ≤ h) (hd : H0.size ≤ d) : tbL (sbA1 h d H.size) a b xs s H := by
  refine (hq.kept (fun q h1 _ => hf.2 q h1)).narrow (fun q h9 => ?_)
  rcases h9 with rfl | rfl | h9
  · exact hh
  · exact hd
  · exact Nat.le_trans hf.1 h9
theorem sbFr_1 {H0 H H1 : Heap} {h d : Nat} (hfr : sbFr H0 H) (hh : H0.size ≤ h) (hd : H0.size ≤ d) (hz : H.size ≤ H1.size) (hk : ∀ q : Nat, q < H.size → ¬ sbA1 h d H.size q → H1[q]? = H[q]?) : sbFr H0 H1 := by
  refine ⟨Nat.le_trans hfr.1 hz, fun q hq => ?_⟩
  rw [hk q (Nat.lt_of_lt_of_le hq hfr.1) (fun h9 => ?_), hfr.2 q hq]
  have := hfr.1
  rcases h9 with rfl | rfl | h9 <;> omega
set_option maxHeartbeats 1000000 in
/-- append(String) -/
theorem tx_app {p : Program} {l : Launch} {e : Env} {R : Room} {s : State} {m : MethodId} {args : Array Value} {below : List Frame} {meth : Method} {c : Code} {H : Heap} {locs : List Loc} {cells slots pc nL : Nat} {ls : Array Slot} {rest : List Value} {Q : State → Prop} {cc : ByteArray} {D : va_G} {cI cJ cD : ClassId} {A : Nat → Prop}
    (M : pvMc "EventClockWorkbenchLaw" cc nL pvTb p s m args meth c) (hK : va_K D vwCl (pvTy cI cJ cD) s) (hZ : sbZ A s s.heap) (hA : ∀ q, s.heap.size ≤ q → A q) (hS : va_S A s.heap H locs) (hsz : ls.size = nL) (hR : 7 ≤ R.frames ∧ 240 ≤ R.locals)
    {H0 : Heap} {h d a b : Nat} {f : Nat → Int32} {xs ys : List Nat} (hP : va_P D vwCl [sbB h d (Int32.ofNat xs.length), sbY cD d f] H) (hD : va_D A [sbB h d (Int32.ofNat xs.length), sbY cD d f]) (hf : tbF f xs) (hq : tbL (sbA1 h d H.size) a b ys s H) (hfr : sbFr H0 H) (hh : H0.size ≤ h) (hd0 : H0.size ≤ d)
    (hl : xs.length + ys.length ≤ 16) (hy : ∀ y ∈ ys, y < 128) (hdg : decode cc pc = .ok (.invokevirtual 39, 3)) (hst : (rest.map fun v => v.category).sum ≤ 8) (hcs : cells ≤ R.cells ∧ slots ≤ R.slots)
    (kk : ∀ (f' : Nat → Int32) (H1 : Heap) (locs1 : List Loc), va_P D vwCl [sbB h d (Int32.ofNat (xs ++ ys).length), sbY cD d f'] H1 → va_D A [sbB h d (Int32.ofNat (xs ++ ys).length), sbY cD d f'] → tbF f' (xs ++ ys) → va_S A s.heap H1 locs1 → sbFr H0 H1 → W p l e R s m args below meth c H1 locs1 cells slots Q (F0 m (pc + 3) ls (.ref h :: rest))) :
    W p l e R s m args below meth c H locs cells slots Q (F0 m pc ls (.ref a :: .ref h :: rest)) := by
  obtain ⟨hx, hb, hml, hown, hts, hlocks⟩ := M
  have h1 := sbA1_in hD (fun q h => hA q (Nat.le_trans hS.1 h))
  refine sb_go (va_runV (C := "java/lang/StringBuilder") (As := [.ref a]) (rest := rest) ⟨hx, hb, hml, hown, hts⟩ (tJ4_append_15ec4 D cI cJ cD (sbA1 h d H.size) [sbB h d (Int32.ofNat xs.length), sbY cD d f] a b ys.length (tbX ys) 0 1 h d xs.length f rfl rfl hl (tbX_lt hy)) ⟨callB_of 1 hts (pvGood_c pvTb_g wd_3_92) rfl rfl rfl (hts _ wd_1_17) (hts _ wd_3_89) ⟨by decide, by decide, by decide +kernel⟩ ⟨by show 5 + 1 ≤ _; omega, by show 8 + (2 + 11) + 160 ≤ _; omega⟩, hts _ wd_3_90, hts _ wd_3_91⟩
    ⟨sbW.blind, va_recv hK hP (ci := 10) rfl (q0 := 0) rfl, fun U hU hW => ⟨rfl, sbW.at hK hZ hS h1 (fun q h => Or.inr (Or.inr h)) (fun q hq9 => by obtain rfl := List.mem_singleton.mp hq9; exact hq) (fun _ h => absurd h List.not_mem_nil) hP (sbA1_D hD) hU hW⟩⟩ rfl rfl hsz rfl (lv_room hst) hdg ⟨hcs.1, hcs.2⟩) hS h1 (fun v9 w9 H1 locs hp hP1 hD1 hS1 hz9 hk9 => ?_)
  obtain ⟨rfl, rfl⟩ := hp
  have hlen : (xs ++ ys).length = xs.length + ys.length := List.length_append
  have hP2 : va_P D vwCl [sbB h d (Int32.ofNat (xs ++ ys).length), sbY cD d (va_cpy (fun j => Int32.ofNat (tbX ys j)) f 0 xs.length ys.length)] H1 := by rw [hlen]; exact hP1
  have hD2 : va_D A [sbB h d (Int32.ofNat (xs ++ ys).length), sbY cD d (va_cpy (fun j => Int32.ofNat (tbX ys j)) f 0 xs.length ys.length)] := by rw [hlen]; exact hD1.weaken (fun _ q _ h => h1 _ h)
  refine kk _ H1 locs hP2 hD2 (tbF_cat hf) hS1 (sbFr_1 hfr hh hd0 hz9 hk9)
set_option maxHeartbeats 1000000 in
/-- append(int), a digit -/
theorem tx_appI {p : Program} {l : Launch} {e : Env} {R : Room} {s : State} {m : MethodId} {args : Array Value} {below : List Frame} {meth : Method} {c : Code} {H : Heap} {locs : List Loc} {cells slots pc nL : Nat} {ls : Array Slot} {rest : List Value} {Q : State → Prop} {cc : ByteArray} {D : va_G} {cI cJ cD : ClassId} {A : Nat → Prop}
    (M : pvMc "EventClockWorkbenchLaw" cc nL pvTb p s m args meth c) (hK : va_K D vwCl (pvTy cI cJ cD) s) (hZ : sbZ A s s.heap) (hA : ∀ q, s.heap.size ≤ q → A q) (hS : va_S A s.heap H locs) (hsz : ls.size = nL) (hR : 7 ≤ R.frames ∧ 240 ≤ R.locals)
    {H0 : Heap} {h d y : Nat} {f : Nat → Int32} {xs : List Nat} (hP : va_P D vwCl [sbB h d (Int32.ofNat xs.length), sbY cD d f] H) (hD : va_D A [sbB h d (Int32.ofNat xs.length), sbY cD d f]) (hf : tbF f xs) (hfr : sbFr H0 H) (hh : H0.size ≤ h) (hd0 : H0.size ≤ d)
    (hl : xs.length < 16) (hy : y < 4) (hdg : decode cc pc = .ok (.invokevirtual 61, 3)) (hst : (rest.map fun v => v.category).sum ≤ 8) (hcs : cells ≤ R.cells ∧ slots ≤ R.slots)
    (kk : ∀ (f' : Nat → Int32) (H1 : Heap) (locs1 : List Loc), va_P D vwCl [sbB h d (Int32.ofNat (xs ++ [48 + y]).length), sbY cD d f'] H1 → va_D A [sbB h d (Int32.ofNat (xs ++ [48 + y]).length), sbY cD d f'] → tbF f' (xs ++ [48 + y]) → va_S A s.heap H1 locs1 → sbFr H0 H1 → W p l e R s m args below meth c H1 locs1 cells slots Q (F0 m (pc + 3) ls (.ref h :: rest))) :
    W p l e R s m args below meth c H locs cells slots Q (F0 m pc ls (.int (Int32.ofNat y) :: .ref h :: rest)) := by
  obtain ⟨hx, hb, hml, hown, hts, hlocks⟩ := M
  have h1 := sbA1_in hD (fun q h => hA q (Nat.le_trans hS.1 h))
  refine sb_go (va_runV (C := "java/lang/StringBuilder") (As := [.int (Int32.ofNat y)]) (rest := rest) ⟨hx, hb, hml, hown, hts⟩ (tJ4_append_bf812 D cI cJ cD (sbA1 h d H.size) [sbB h d (Int32.ofNat xs.length), sbY cD d f] 0 1 h d xs.length f y rfl rfl hy hl) ⟨callB_of 1 hts (pvGood_c pvTb_g wd_4_44) rfl rfl rfl (hts _ wd_1_17) (hts _ wd_4_41) ⟨by decide, by decide, by decide +kernel⟩ ⟨by show 3 + 1 ≤ _; omega, by show 8 + (2 + 11) + 96 ≤ _; omega⟩, hts _ wd_4_42, hts _ wd_4_43⟩
    ⟨sbW.blind, va_recv hK hP (ci := 10) rfl (q0 := 0) rfl, fun U hU hW => ⟨rfl, sbW.at hK hZ hS h1 (fun q h => Or.inr (Or.inr h)) (fun _ h => absurd h List.not_mem_nil) (fun _ h => absurd h List.not_mem_nil) hP (sbA1_D hD) hU hW⟩⟩ rfl rfl hsz rfl (lv_room hst) hdg ⟨hcs.1, hcs.2⟩) hS h1 (fun v9 w9 H1 locs hp hP1 hD1 hS1 hz9 hk9 => ?_)
  obtain ⟨rfl, rfl⟩ := hp
  have hlen : (xs ++ [48 + y]).length = xs.length + 1 := List.length_append
  have hP2 : va_P D vwCl [sbB h d (Int32.ofNat (xs ++ [48 + y]).length), sbY cD d (upd f xs.length (Int32.ofNat (48 + y)))] H1 := by rw [hlen]; exact hP1
  have hD2 : va_D A [sbB h d (Int32.ofNat (xs ++ [48 + y]).length), sbY cD d (upd f xs.length (Int32.ofNat (48 + y)))] := by rw [hlen]; exact hD1.weaken (fun _ q _ h => h1 _ h)
  exact kk _ H1 locs hP2 hD2 (tbF_num hf) hS1 (sbFr_1 hfr hh hd0 hz9 hk9)
set_option maxHeartbeats 1000000 in
/-- toString() -/
theorem tx_str {p : Program} {l : Launch} {e : Env} {R : Room} {s : State} {m : MethodId} {args : Array Value} {below : List Frame} {meth : Method} {c : Code} {H : Heap} {locs : List Loc} {cells slots pc nL : Nat} {ls : Array Slot} {rest : List Value} {Q : State → Prop} {cc : ByteArray} {D : va_G} {cI cJ cD : ClassId} {A : Nat → Prop}
    (M : pvMc "EventClockWorkbenchLaw" cc nL pvTb p s m args meth c) (hK : va_K D vwCl (pvTy cI cJ cD) s) (hZ : sbZ A s s.heap) (hA : ∀ q, s.heap.size ≤ q → A q) (hS : va_S A s.heap H locs) (hsz : ls.size = nL) (hR : 7 ≤ R.frames ∧ 240 ≤ R.locals)
    {H0 : Heap} {h d : Nat} {f : Nat → Int32} {xs : List Nat} (hP : va_P D vwCl [sbB h d (Int32.ofNat xs.length), sbY cD d f] H) (hD : va_D A [sbB h d (Int32.ofNat xs.length), sbY cD d f]) (hf : tbF f xs) (hfr : sbFr H0 H) (hh : H0.size ≤ h) (hd0 : H0.size ≤ d)
    (hl : xs.length < 16) (hy : ∀ x ∈ xs, x < 128) (hdg : decode cc pc = .ok (.invokevirtual 45, 3)) (hst : (rest.map fun v => v.category).sum ≤ 8) (hcs : cells + 2 ≤ R.cells ∧ slots + 20 ≤ R.slots)
    (kk : ∀ (a b : Nat) (g : Nat → Int32) (H1 : Heap) (locs1 : List Loc), H.size ≤ a → H.size ≤ b → va_P D vwCl [(a, .inr (9, [.ref b, .int 0, .int 0, .int 0])), (b, .inl (cD, xs.length, .inl g))] H1 → (∀ j, j < xs.length → g j = Int32.ofNat (tbX xs j)) → va_D A [(a, .inr (9, [.ref b, .int 0, .int 0, .int 0])), (b, .inl (cD, xs.length, .inl g))] → va_S A s.heap H1 locs1 → sbFr H0 H1 → W p l e R s m args below meth c H1 locs1 (cells + 2) (slots + 20) Q (F0 m (pc + 3) ls (.ref a :: rest))) :
    W p l e R s m args below meth c H locs cells slots Q (F0 m pc ls (.ref h :: rest)) := by
  obtain ⟨hx, hb, hml, hown, hts, hlocks⟩ := M
  have h1 := sbA1_in hD (fun q h => hA q (Nat.le_trans hS.1 h))
  refine sb_go (va_runV (C := "java/lang/StringBuilder") (As := []) (rest := rest) ⟨hx, hb, hml, hown, hts⟩ (tJ4_toString_0e30d D cI cJ cD (sbA1 h d H.size) [sbB h d (Int32.ofNat xs.length), sbY cD d f] 0 1 h d xs.length f rfl rfl hl (fun q hq => by rw [hf q hq]; exact (sb_ch _ (tbX_lt hy q hq)).2.2.2.1)) ⟨callB_of 0 hts (pvGood_c pvTb_g wd_3_218) rfl rfl rfl (hts _ wd_1_17) (hts _ wd_3_215) ⟨by decide, by decide, by decide +kernel⟩ ⟨by show 6 + 1 ≤ _; omega, by show 8 + (1 + 11) + 192 ≤ _; omega⟩, hts _ wd_3_216, hts _ wd_3_217⟩
    ⟨sbW.blind, va_recv hK hP (ci := 10) rfl (q0 := 0) rfl, fun U hU hW => ⟨rfl, sbW.at hK hZ hS h1 (fun q h => Or.inr (Or.inr h)) (fun _ h => absurd h List.not_mem_nil) (fun _ h => absurd h List.not_mem_nil) hP (sbA1_D hD) hU hW⟩⟩ rfl rfl hsz rfl (lv_room hst) hdg ⟨hcs.1, hcs.2⟩) hS h1 (fun v9 w9 H1 locs hp hP1 hD1 hS1 hz9 hk9 => ?_)
  obtain ⟨a, b, rfl, rfl⟩ := hp
  have new : ∀ (i : Nat) (x : Nat × va_E), 2 ≤ i → ([sbB h d (Int32.ofNat xs.length), sbY cD d f] ++ [(a, .inr (9, [.ref b, .int 0, .int 0, .int 0])), (b, .inl (cD, xs.length, .inl (va_cpy f (fun _ => 0) 0 0 xs.length)))] : va_W)[i]? = some x → H.size ≤ x.1 := by
    intro i x hi9 hx9
    rcases hD1.2 i x hx9 with q | q | q
    · have := hD1.1 i 0 x (sbB h d (Int32.ofNat xs.length)) hx9 rfl q
      omega
    · have := hD1.1 i 1 x (sbY cD d f) hx9 rfl q
      omega
    · exact q
  refine kk a b (va_cpy f (fun _ => 0) 0 0 xs.length) H1 locs (new 2 _ (Nat.le_refl _) rfl) (new 3 _ (by decide) rfl) (hP1.sub [2, 3] rfl) (fun j hj => ?_) ((hD1.sub [2, 3] (by decide) rfl).weaken (fun _ q _ h => h1 _ h)) hS1 (sbFr_1 hfr hh hd0 hz9 hk9)
  unfold va_cpy
  rw [if_pos (by omega)]
  show f (0 + (j - 0)) = _
  rw [Nat.sub_zero, Nat.zero_add, hf j hj]
  rfl
set_option maxHeartbeats 1000000 in
/-- new StringBuilder() -/
theorem tx_new {p : Program} {l : Launch} {e : Env} {R : Room} {s : State} {m : MethodId} {args : Array Value} {below : List Frame} {meth : Method} {c : Code} {H : Heap} {locs : List Loc} {cells slots pc nL : Nat} {ls : Array Slot} {rest : List Value} {Q : State → Prop} {cc : ByteArray} {D : va_G} {cI cJ cD : ClassId} {A : Nat → Prop}
    (M : pvMc "EventClockWorkbenchLaw" cc nL pvTb p s m args meth c) (hK : va_K D vwCl (pvTy cI cJ cD) s) (hZ : sbZ A s s.heap) (hA : ∀ q, s.heap.size ≤ q → A q) (hS : va_S A s.heap H locs) (hsz : ls.size = nL) (hR : 7 ≤ R.frames ∧ 240 ≤ R.locals)
    (hd0 : decode cc pc = .ok (.new 36, 3)) (hd1 : decode cc (pc + 3) = .ok (.dup, 1)) (hd2 : decode cc (pc + 4) = .ok (.invokespecial 38, 3)) (hst : (rest.map fun v => v.category).sum ≤ 7) (hcs : cells + 2 ≤ R.cells ∧ slots + 20 ≤ R.slots)
    (kk : ∀ (h d : Nat) (H1 : Heap) (locs1 : List Loc), va_P D vwCl [sbB h d (Int32.ofNat ([] : List Nat).length), sbY cD d (fun _ => 0)] H1 → va_D A [sbB h d (Int32.ofNat ([] : List Nat).length), sbY cD d (fun _ => 0)] → tbF (fun _ => 0) [] → H.size ≤ h → H.size ≤ d → va_S A s.heap H1 locs1 → sbFr H H1 → W p l e R s m args below meth c H1 locs1 (cells + 2) (slots + 20) Q (F0 m (pc + 7) ls (.ref h :: rest))) :
    W p l e R s m args below meth c H locs cells slots Q (F0 m pc ls rest) := by
  obtain ⟨hx, hb, hml, hown, hts, hlocks⟩ := M
  have hKn := hK.1 10 _ rfl
  refine W.newcK (n := 4) hx hb hown (hts _ wd_3_57) (hts _ wd_3_58) (hts _ wd_1_17) rfl hd0 (by omega) (by omega) hKn.2.1 rfl fun H1 kC hkC e1 z1 o1 => ?_
  have hP1 : va_P D vwCl [(H.size, .inr (10, [.null, .int 0, .int 0, .int 0]))] H1 := by
    intro k x hx
    have hz : k < 1 := (List.getElem?_eq_some_iff.mp hx).1
    rw [show k = 0 by omega] at hx
    cases hx
    exact ⟨_, rfl, (u_born tyJ4 hts wsok_J4 hKn hkC e1 tyJ4_ok).to (fun j hj => by rcases (show j = 0 ∨ j = 1 ∨ j = 2 ∨ j = 3 by have : j < 4 := hj; omega) with rfl | rfl | rfl | rfl <;> rfl)⟩
  have hS1 : va_S A s.heap H1 locs := ⟨Nat.le_trans hS.1 (by omega), fun x h1 h2 => (o1 x (Nat.lt_of_lt_of_le h1 hS.1)).trans (hS.2.1 x h1 h2), hS.2.2⟩
  have hD1 : va_D (fun q => H.size ≤ q) [(H.size, .inr (10, [.null, .int 0, .int 0, .int 0]))] := by
    refine ⟨fun i j p q hi hj _ => ?_, fun k x hx => ?_⟩
    · have := (List.getElem?_eq_some_iff.mp hi).1
      have := (List.getElem?_eq_some_iff.mp hj).1
      simp only [List.length_cons, List.length_nil] at *
      omega
    · have hz : k < 1 := (List.getElem?_eq_some_iff.mp hx).1
      rw [show k = 0 by omega] at hx
      cases hx
      exact Nat.le_refl _
  refine W.eq (g2 := F0 m (pc + 3) ls (.ref H.size :: rest)) rfl ?_
  refine lv_dup hx hb hd1 rfl ?_
  have hAA : ∀ q, H.size ≤ q → A q := fun q h => hA q (Nat.le_trans hS.1 h)
  refine W.eq (g2 := F0 m (pc + 4) ls (.ref H.size :: .ref H.size :: rest)) rfl ?_
  refine sb_go (va_runI (As := []) (rest := .ref H.size :: rest) ⟨hx, hb, hml, hown, hts⟩ (tJ4_init_da8c8 D cI cJ cD (fun q => H.size ≤ q) [(H.size, .inr (10, [.null, .int 0, .int 0, .int 0]))] 0 H.size rfl) ⟨callB_of 0 hts (pvGood_c pvTb_g wd_3_61) rfl rfl rfl (hts _ wd_1_17) (hts _ wd_3_59) ⟨by decide, by decide, by decide +kernel⟩ ⟨by show 3 + 1 ≤ _; omega, by show 8 + (1 + 11) + 96 ≤ _; omega⟩, rfl, hts _ wd_3_60⟩
    ⟨sbW.blind, fun U hU hW => ⟨rfl, sbW.at hK hZ hS1 hAA (fun q h => by omega) (fun _ h => absurd h List.not_mem_nil) (fun _ h => absurd h List.not_mem_nil) hP1 hD1 hU hW⟩⟩ rfl rfl hsz rfl (lv_room (by show 1 + (rest.map fun v => v.category).sum ≤ 8; omega)) hd2 ⟨by show cells + 1 + 1 ≤ _; omega, by show slots + 4 + 16 ≤ _; omega⟩) hS1 hAA (fun v9 w9 H2 locs hp hP2 hD2 hS2 hz9 hk9 => ?_)
  obtain ⟨d, rfl, rfl⟩ := hp
  have hd9 : H.size ≤ d := hD2.2 1 (sbY cD d (fun _ => 0)) rfl
  exact kk H.size d H2 locs hP2 (hD2.weaken (fun _ q _ h => hAA _ h)) (fun j hj => absurd hj (Nat.not_lt_zero _)) (Nat.le_refl _) hd9 hS2 ⟨by omega, fun q hq => by rw [hk9 q (by omega) (by omega)]; exact o1 q hq⟩
set_option maxHeartbeats 1000000 in
/-- length() -/
theorem tx_len {p : Program} {l : Launch} {e : Env} {R : Room} {s : State} {m : MethodId} {args : Array Value} {below : List Frame} {meth : Method} {c : Code} {H : Heap} {locs : List Loc} {cells slots pc nL : Nat} {ls : Array Slot} {rest : List Value} {Q : State → Prop} {cc : ByteArray} {D : va_G} {cI cJ cD : ClassId} {A : Nat → Prop}
    (M : pvMc "EventClockWorkbenchLaw" cc nL pvTb p s m args meth c) (hK : va_K D vwCl (pvTy cI cJ cD) s) (hZ : sbZ A s s.heap) (hA : ∀ q, s.heap.size ≤ q → A q) (hS : va_S A s.heap H locs) (hsz : ls.size = nL) (hR : 7 ≤ R.frames ∧ 240 ≤ R.locals)
    {a b : Nat} {xs : List Nat} (hq : tbL (fun q => H.size ≤ q) a b xs s H) (hdg : decode cc pc = .ok (.invokevirtual 14, 3)) (hst : (rest.map fun v => v.category).sum ≤ 8) (hcs : cells ≤ R.cells ∧ slots ≤ R.slots)
    (kk : ∀ (H1 : Heap) (locs1 : List Loc), va_S A s.heap H1 locs1 → sbFr H H1 → W p l e R s m args below meth c H1 locs1 cells slots Q (F0 m (pc + 3) ls (.int (Int32.ofNat xs.length) :: rest))) :
    W p l e R s m args below meth c H locs cells slots Q (F0 m pc ls (.ref a :: rest)) := by
  obtain ⟨hx, hb, hml, hown, hts, hlocks⟩ := M
  have hAA : ∀ q, H.size ≤ q → A q := fun q h => hA q (Nat.le_trans hS.1 h)
  refine sb_go (va_runV (C := "java/lang/String") (As := []) (rest := rest) ⟨hx, hb, hml, hown, hts⟩ (tJ0_length_8abf5 D cI cJ cD (fun q => H.size ≤ q) [] a b xs.length (tbX xs)) ⟨callB_of 0 hts (pvGood_c pvTb_g wd_3_167) rfl rfl rfl (hts _ wd_1_18) (hts _ wd_4_69) ⟨by decide, by decide, by decide +kernel⟩ ⟨by show 2 + 1 ≤ _; omega, by show 8 + (1 + 11) + 64 ≤ _; omega⟩, hts _ wd_3_165, hts _ wd_3_166⟩
    ⟨sbW.blind, hq.recv, fun U hU hW => ⟨rfl, sbW.at hK hZ hS hAA (fun q h => h) (fun q hq9 => by obtain rfl := List.mem_singleton.mp hq9; exact hq) (fun _ h => absurd h List.not_mem_nil) (fun k q h => by simp at h) ⟨fun i j p q h => by simp at h, fun k q h => by simp at h⟩ hU hW⟩⟩ rfl rfl hsz rfl (lv_room hst) hdg ⟨hcs.1, hcs.2⟩) hS hAA (fun v9 w9 H1 locs hp hP1 hD1 hS1 hz9 hk9 => ?_)
  obtain ⟨rfl, -⟩ := hp
  exact kk H1 locs hS1 ⟨hz9, fun q hq9 => hk9 q hq9 (by omega)⟩
set_option maxHeartbeats 1000000 in
/-- charAt(k) -/
theorem tx_chr {p : Program} {l : Launch} {e : Env} {R : Room} {s : State} {m : MethodId} {args : Array Value} {below : List Frame} {meth : Method} {c : Code} {H : Heap} {locs : List Loc} {cells slots pc nL : Nat} {ls : Array Slot} {rest : List Value} {Q : State → Prop} {cc : ByteArray} {D : va_G} {cI cJ cD : ClassId} {A : Nat → Prop}
    (M : pvMc "EventClockWorkbenchLaw" cc nL pvTb p s m args meth c) (hK : va_K D vwCl (pvTy cI cJ cD) s) (hZ : sbZ A s s.heap) (hA : ∀ q, s.heap.size ≤ q → A q) (hS : va_S A s.heap H locs) (hsz : ls.size = nL) (hR : 7 ≤ R.frames ∧ 240 ≤ R.locals)
    {a b k : Nat} {xs : List Nat} (hq : tbL (fun q => H.size ≤ q) a b xs s H) (hn : xs.length < 2 ^ 31) (hk : k < xs.length) (hy : ∀ x ∈ xs, x < 128) (hdg : decode cc pc = .ok (.invokevirtual 20, 3)) (hst : (rest.map fun v => v.category).sum ≤ 8) (hcs : cells ≤ R.cells ∧ slots ≤ R.slots)
    (kk : ∀ (H1 : Heap) (locs1 : List Loc), va_S A s.heap H1 locs1 → sbFr H H1 → W p l e R s m args below meth c H1 locs1 cells slots Q (F0 m (pc + 3) ls (.int (Int32.ofNat (tbX xs k)) :: rest))) :
    W p l e R s m args below meth c H locs cells slots Q (F0 m pc ls (.int (Int32.ofNat k) :: .ref a :: rest)) := by
  obtain ⟨hx, hb, hml, hown, hts, hlocks⟩ := M
  have hAA : ∀ q, H.size ≤ q → A q := fun q h => hA q (Nat.le_trans hS.1 h)
  refine sb_go (va_runV (C := "java/lang/String") (As := [.int (Int32.ofNat k)]) (rest := rest) ⟨hx, hb, hml, hown, hts⟩ (tJ0_charAt_5068e D cI cJ cD (fun q => H.size ≤ q) [] a b xs.length (tbX xs) k hn hk (tbX_lt hy)) ⟨callB_of 1 hts (pvGood_c pvTb_g wd_4_73) rfl rfl rfl (hts _ wd_1_18) (hts _ wd_4_70) ⟨by decide, by decide, by decide +kernel⟩ ⟨by show 4 + 1 ≤ _; omega, by show 8 + (2 + 11) + 128 ≤ _; omega⟩, hts _ wd_4_71, hts _ wd_4_72⟩
    ⟨sbW.blind, hq.recv, fun U hU hW => ⟨rfl, sbW.at hK hZ hS hAA (fun q h => h) (fun q hq9 => by obtain rfl := List.mem_singleton.mp hq9; exact hq) (fun _ h => absurd h List.not_mem_nil) (fun k q h => by simp at h) ⟨fun i j p q h => by simp at h, fun k q h => by simp at h⟩ hU hW⟩⟩ rfl rfl hsz rfl (lv_room hst) hdg ⟨hcs.1, hcs.2⟩) hS hAA (fun v9 w9 H1 locs hp hP1 hD1 hS1 hz9 hk9 => ?_)
  obtain ⟨rfl, -⟩ := hp
  exact kk H1 locs hS1 ⟨hz9, fun q hq9 => hk9 q hq9 (by omega)⟩
