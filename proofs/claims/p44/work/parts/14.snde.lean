/-! a whole method of the plain kind: from what its code owes to its contract over the machine -/
theorem pvEn_len {as : List pvV} {n : Nat} (h : pvCs as ≤ n) : (pvEn as n).length = n := by
  induction as generalizing n with
  | nil => simp [pvEn]
  | cons v t ih =>
    simp only [pvCs] at h
    simp only [pvEn]
    split
    · rename_i h2
      simp only [List.length_cons, ih (n := n - 2) (by omega)]
      omega
    · have : 1 ≤ pvCat v := by rcases v with a | a | a | a | a <;> simp [pvCat]
      simp only [List.length_cons, ih (n := n - 1) (by omega)]
      omega
theorem pvEn_args (ad : Nat → Nat) (as : List pvV) (n k i : Nat) (v : pvV) (h : pvLd (pvEn as n) i = some v) : (k + i, pvRe ad v) ∈ lv_args k (as.map (pvRe ad)) := by
  induction as generalizing n k i with
  | nil =>
    exfalso
    simp only [pvEn] at h
    rw [pvLd_get, List.getElem?_replicate] at h
    split at h <;> simp at h
  | cons w t ih =>
    simp only [pvEn] at h
    simp only [List.map_cons, lv_args, pvRe_cat]
    split at h
    · rename_i h2
      rw [if_pos h2]
      match i, h with
      | 0, h => simp only [pvLd, Option.some.injEq] at h; subst h; exact List.mem_cons_self
      | 1, h => simp [pvLd] at h
      | i + 2, h =>
        have := ih (n - 2) (k + 2) i h
        rw [show k + (i + 2) = k + 2 + i by omega]
        exact List.mem_cons_of_mem _ this
    · rename_i h2
      rw [if_neg h2]
      match i, h with
      | 0, h => simp only [pvLd, Option.some.injEq] at h; subst h; exact List.mem_cons_self
      | i + 1, h =>
        have := ih (n - 1) (k + 1) i h
        rw [show k + (i + 1) = k + 1 + i by omega]
        exact List.mem_cons_of_mem _ this
theorem pv_lgsl (ad : Nat → Nat) (as : List pvV) : (lg_sl (as.map (pvRe ad))).length = pvCs as := by
  induction as with
  | nil => rfl
  | cons v t ih =>
    have e : lg_sl ((v :: t).map (pvRe ad)) = (if (pvRe ad v).category = 2 then [.val (pvRe ad v), .second] else [.val (pvRe ad v)]) ++ lg_sl (t.map (pvRe ad)) := rfl
    rw [e, List.length_append, ih, pvRe_cat]
    simp only [pvCs]
    rcases v with a | a | a | a | a <;> rfl
theorem pvLh_en {ad : Nat → Nat} {as : List pvV} {n : Nat} (h : pvCs as ≤ n) :
    pvLh ad (pvEn as n) ((lg_sl (as.map (pvRe ad)) ++ List.replicate (n - (lg_sl (as.map (pvRe ad))).length) Slot.unset).toArray) n := by
  refine ⟨lv_has_sub (lv_entry (as.map (pvRe ad)) (by rw [pv_lgsl]; exact h)) ?_, pvEn_len h⟩
  rintro ⟨i, x⟩ hq
  obtain ⟨⟨i', w⟩, hm, he⟩ := List.mem_map.mp hq
  simp only [Prod.mk.injEq] at he
  obtain ⟨rfl, rfl⟩ := he
  have h1 := ((pvAs_mem _ _ _).mp hm).2
  rw [Nat.sub_zero] at h1
  have := pvEn_args ad as n 0 _ _ h1
  rw [Nat.zero_add] at this
  exact this
theorem pvEn_ok {as : List pvV} (n : Nat) (h : pvOkS as) : pvOkL (pvEn as n) := by
  induction as generalizing n with
  | nil =>
    intro k v hk
    simp only [pvEn] at hk
    rw [pvLd_get, List.getElem?_replicate] at hk
    split at hk <;> simp at hk
  | cons w t ih =>
    intro k v hk
    simp only [pvEn] at hk
    split at hk
    · match k, hk with
      | 0, hk => simp only [pvLd, Option.some.injEq] at hk; subst hk; exact pvOkS_h h
      | 1, hk => simp [pvLd] at hk
      | k + 2, hk => exact ih (n - 2) (pvOkS_t h) k v hk
    · match k, hk with
      | 0, hk => simp only [pvLd, Option.some.injEq] at hk; subst hk; exact pvOkS_h h
      | k + 1, hk => exact ih (n - 1) (pvOkS_t h) k v hk
theorem pvSz_of_end {st t : State} {o : Outcome} {L : List Loc} (h : FrameEnd st o t L 0 0) : pvSz st.heap t.heap := by
  obtain ⟨-, -, h1, h2, h3, h4, h5, h6⟩ := h
  refine ⟨Nat.le_antisymm (by simpa using h3) h2, fun a c hc => ?_⟩
  obtain ⟨c', e1, -, e3, -⟩ := h6 a c hc
  exact ⟨c', e1, e3⟩
/-- a plain method's words for a throw of its own -/
def pvExOk (own : String) (cc : ByteArray) (Tb : List Jvm.Cond) (Ex : pvEx) (rm : Room) : Prop := ∀ ix ic k pc, Ex ix = some k → k < 4 → decode cc pc = .ok (.new ix, 3) → decode cc (pc + 4) = .ok (.invokespecial ic, 3) →
  Cond.classLink own ix (pvXn k) ∈ Tb ∧ Cond.initialized (pvXn k) ∈ Tb ∧ (∀ w ∈ (vx_at0 own ic (pvXn k) ["java/lang/RuntimeException", "java/lang/Exception"]).filter goodWord, w ∈ Tb) ∧
  (vx_at0 own ic (pvXn k) ["java/lang/RuntimeException", "java/lang/Exception"]).filter (fun w => !goodWord w) = [.declares ⟨"java/lang/RuntimeException", "<init>", "()V"⟩, .declares ⟨"java/lang/Exception", "<init>", "()V"⟩, .declares ⟨"java/lang/Throwable", "<init>", "()V"⟩, .castable (pvXn k) (pvXn k)] ∧
  (∀ w ∈ Cond.classLink own ix (pvXn k) :: Cond.initialized (pvXn k) :: vx_at0 own ic (pvXn k) ["java/lang/RuntimeException", "java/lang/Exception"], vx_ot w = true) ∧ 5 < rm.frames ∧ 81 ≤ rm.locals
theorem pvXn_cast {k : Nat} : pvXn k ∈ pvXcast := by
  rcases k with _ | _ | _ | k <;> simp [pvXn, pvXcast]
theorem pvXn_fit {k : Nat} : Bundle.fit (pvXn k) = true := by
  rcases k with _ | _ | _ | k <;> rfl
set_option maxHeartbeats 4000000 in
theorem pvMet_of {l : Launch} (hflags : l.stackTraces = false) {y : MethodName} {cc : ByteArray} {nL : Nat} {ret : Option FieldType} {rm : Room} {C : pvC} {F : pvF} {Ca : pvCa} {Co : pvCo} {Ex : pvEx} {blk : Nat → List (Instr × Nat)} {cut : Nat → Option (List Bool)} {Tb : List Jvm.Cond}
    (hy : plainName y.cls = true) (hTb : ∀ w ∈ Tb, goodWord w = true) (hCo : pvCoOk y.cls Tb Co) (hF : pvFOk y.cls Tb F) (hCl : pvClOk Tb) (hCa : ∀ lm sc, pvCaOk l rm y.cls Tb lm sc Ca)
    (hEx : pvExOk y.cls cc Tb Ex rm) (hcp : ∀ ix, Ex ix = some 100 ∨ Ex ix = some 101 → Cond.methodLink y.cls ix arraycopyName ∈ Tb ∧ Cond.native arraycopyName ∈ Tb ∧ Cond.static arraycopyName ∈ Tb ∧ Cond.initialized "java/lang/System" ∈ Tb ∧ 1 ≤ rm.frames ∧ 8 + (nativeFrameWords "java/lang/System" "arraycopy" 5 + 11) ≤ rm.locals)
    (hrm : rm.cells = 1 ∧ rm.slots = 6) (hblk : ∀ pc, pvChain cc pc (blk pc)) (H0 : pvOkM F Ca Co Ex ret blk cut nL C) : pvMet l y (Cond.code y cc nL ret :: Tb) rm C := by
  intro ad D cI cJ cD sx L A as z Q hL0 hsx hOk hz hC
  refine vx_ofW (cc := cc) (maxL := nL) (ret := ret) hy rfl ?_
  intro p e s m args below meth c s₁ B hml htab hv
  obtain ⟨rfl, hWc, hP, hD⟩ := hv
  have hx := B.exec
  have hb := B.bytes
  have hr := B.returns
  have hts0 := atoms_spec (ws := Cond.code y cc nL ret :: Tb) B.pre
  have hts : ∀ w ∈ Tb, w.before (as.map (pvRe ad)).toArray s = true := fun w hw => hts0 w (List.mem_cons_of_mem _ hw)
  have hown : s.vm.findClass y.cls = some m.cls := findClass_of_methodNamed B.named
  have hlocks := B.notSynchronized
  have M : pvMc y.cls cc nL Tb p s m (as.map (pvRe ad)).toArray meth c := ⟨hx, hb, hml, hown, hts, hlocks⟩
  have hA : ∀ q, s.heap.size ≤ q → A q := hWc.2.1
  let Qm : State → Prop := vx_MQ below (pvQc ad D cI cJ cD L A 0 Q) (pvXc ad D cI cJ cD L A Q) (as.map (pvRe ad)).toArray s 1 6 A
  let SWm : pvJ := pvSW p l e rm s m (as.map (pvRe ad)).toArray below meth c Qm nL L 0 0 ad D cI cJ cD A
  have hD' : ∀ z, va_D A (pvWs ad cI cJ cD L z) := fun z' => pvD_any hD
  have hRt : ∀ (i : Instr) (v : Option pvV) (pc g : Nat) (z : pvM), pvRk i v = true → decode cc pc = .ok (i, 1) → pvRt ret Q v z g → (∀ x, v = some x → pvOk x) → pvRng z → ∀ (H : Heap) (locs : List Loc) (arr : Array Slot), va_P D vwCl (pvWs ad cI cJ cD L z) H → va_S A s.heap H locs →
      W p l e rm s m (as.map (pvRe ad)).toArray below meth c H locs (0 + g) (0 + 6 * g) Qm (F0 m pc arr (v.map (pvRe ad)).toList) := by
    intro i v pc g z' hrk hd hret hok hrz H locs arr hP' hSS
    obtain ⟨rfl, hrv, hq⟩ := hret
    have hfin : ∀ t : State, t.heap = H → s.WarmedH t.vm → ∃ (v' : Option pvV) (z'' : pvM), (Outcome.returned (v.map (pvRe ad)) = .returned (v'.map (pvRe ad))) ∧ (∀ x, v' = some x → pvOk x) ∧ pvRng z'' ∧ Q (.inl v') z'' ∧ va_P D vwCl (pvWs ad cI cJ cD L z'') t.heap ∧ va_F A s t := fun t ht hW => ⟨v, z', rfl, hok, hrz, hq, by rw [ht]; exact hP', hSS.F ht⟩
    have up : W p l e rm s m (as.map (pvRe ad)).toArray below meth c H locs 0 0 (MQ below (fun _ st o t => ∃ (v' : Option pvV) (z'' : pvM), o = .returned (v'.map (pvRe ad)) ∧ (∀ x, v' = some x → pvOk x) ∧ pvRng z'' ∧ Q (.inl v') z'' ∧ va_P D vwCl (pvWs ad cI cJ cD L z'') t.heap ∧ va_F A st t) (as.map (pvRe ad)).toArray s 0 0 A) (F0 m pc arr (v.map (pvRe ad)).toList) →
        W p l e rm s m (as.map (pvRe ad)).toArray below meth c H locs (0 + 0) (0 + 6 * 0) Qm (F0 m pc arr (v.map (pvRe ad)).toList) := by
      intro k T hT X
      obtain ⟨t, a1, o, b1, b2, ⟨v', z'', c1, c2, c3, c4, c5, c6⟩, L, d1, d2⟩ := k T hT X
      obtain ⟨f1, f2, f3⟩ := d1
      exact ⟨t, a1, o, b1, b2, Or.inl ⟨⟨v', z'', c1, c2, c3, c4, c5, c6, fun _ => pvSz_of_end ⟨f1, f2, f3⟩⟩, L, ⟨f1, f2, f3.mono (Nat.zero_le _) (Nat.zero_le _)⟩, d2⟩⟩
    refine up ?_
    have hl2 := hSS.2.2
    cases i <;> first | (cases hrk; done) | skip
    case ireturn =>
      rcases v with _ | (a | a | a | a | a) <;> first | (cases hrk; done) | skip
      rcases ret with _ | (_ | _ | _ | _ | _ | _ | _ | _ | nm | ty) <;> first | (exact hrv.elim) | skip
      · exact W.iret hx hb hr hfin hl2 hd
      · exact W.zret (ty := .boolean) hx hb hr (by rcases hrv with rfl | rfl <;> rfl) hfin hl2 hd
    case lreturn =>
      rcases v with _ | (a | a | a | a | a) <;> first | (cases hrk; done) | skip
      rcases ret with _ | (_ | _ | _ | _ | _ | _ | _ | _ | nm | ty) <;> first | (exact hrv.elim) | skip
      exact W.lret hx hb hr hfin hl2 hd
    case areturn =>
      rcases v with _ | (a | a | a | a | a) <;> first | (cases hrk; done) | skip
      rcases ret with _ | (_ | _ | _ | _ | _ | _ | _ | _ | nm | ty) <;> first | (exact hrv.elim) | skip
      exact W.aret hx hb hr (Or.inl ⟨nm, rfl⟩) (Or.inr ⟨_, rfl⟩) hfin hl2 hd
    case dreturn =>
      rcases v with _ | (a | a | a | a | a) <;> first | (cases hrk; done) | skip
      rcases ret with _ | (_ | _ | _ | _ | _ | _ | _ | _ | nm | ty) <;> first | (exact hrv.elim) | skip
      exact W.dret hx hb hr hfin hl2 hd
    case freturn =>
      rcases v with _ | (a | a | a | a | a) <;> first | (cases hrk; done) | skip
      rcases ret with _ | (_ | _ | _ | _ | _ | _ | _ | _ | nm | ty) <;> first | (exact hrv.elim) | skip
      exact W.fret hx hb hr hfin hl2 hd
    case return_ =>
      rcases v with _ | (a | a | a | a | a) <;> first | (cases hrk; done) | skip
      rcases ret with _ | (_ | _ | _ | _ | _ | _ | _ | _ | nm | ty) <;> first | (exact hrv.elim) | skip
      exact W.vret hx hb hr hfin hl2 hd
  have hTx : ∀ (k pc g : Nat) (z : pvM), pvTh Q k pc z g → pvRng z → ∀ (H : Heap) (locs : List Loc) (arr : Array Slot) (ls : pvL) (q : Addr) (ce : Cell) (rest : List Value), pvLh ad ls arr nL → va_P D vwCl (pvWs ad cI cJ cD L z) H → va_S A s.heap H locs → H[q]? = some ce → ce.vm = .none → s.vm.findClass (pvXn k) = some ce.cls →
      vx_W p l e rm s m (as.map (pvRe ad)).toArray below meth c H locs (0 + g + 1) (0 + 6 * g + 6) Qm (F0 m pc arr rest) q := by
    intro k pc g z' hth hrz H locs arr ls q ce rest hl hP' hSS h1 h2 h3
    obtain ⟨rfl, hq⟩ := hth
    exact vx_out (fun x hx => (htab x hx).elim) hlocks h1 h2 h3 (fun t ht hal => ⟨k, z', rfl, hrz, hq, by rw [ht]; exact hP', hSS.F ht⟩) hSS.2.2 (Nat.le_refl _) (Nat.le_refl _)
  have hNw : ∀ (ix ic k pc g : Nat) (z : pvM), Ex ix = some k → k < 4 → decode cc pc = .ok (.new ix, 3) → decode cc (pc + 3) = .ok (.dup, 1) → decode cc (pc + 4) = .ok (.invokespecial ic, 3) → decode cc (pc + 7) = .ok (.athrow, 1) → g < 1 → pvTh Q k (pc + 7) z g → pvRng z →
      ∀ (H : Heap) (locs : List Loc) (arr : Array Slot), va_P D vwCl (pvWs ad cI cJ cD L z) H → va_S A s.heap H locs → arr.size = nL → W p l e rm s m (as.map (pvRe ad)).toArray below meth c H locs (0 + g) (0 + 6 * g) Qm (F0 m pc arr []) := by
    intro ix ic k pc g z' hE hk4 d0 d3 d4 d7 hg hth hrz H locs arr hP' hSS hsz
    obtain ⟨rfl, hq⟩ := hth
    obtain ⟨w1, w2, w3, w4, w5, w6, w7⟩ := hEx ix ic k pc hE hk4 d0 d4
    obtain ⟨g1, g2, g3, g4, g5, g6, g7, g8, g9, g10⟩ := hWc
    refine vx_throw0 hx hb hflags (names := ["java/lang/RuntimeException", "java/lang/Exception"]) (mc := 1) (ms := 6) (A := A) hown pvXn_fit (by intro n hn; simp only [List.mem_cons, List.not_mem_nil, or_false] at hn; rcases hn with rfl | rfl <;> rfl) (hts _ w1) (hts _ w2)
      (vx_hat (fun w hw => hts w (w3 w hw)) (fun w hw => by rw [w4] at hw; exact hw) ?_) w5 g3 g4 hSS (by rw [hsz, hml]) d0 d3 d4 d7 (fun x hx => (htab x hx).elim) (by show 2 + 3 < rm.frames; omega) (by show 0 + (13 * (2 + 1) + 42) ≤ rm.locals; omega) (by show 0 + 0 + 1 ≤ rm.cells; omega) (by show 0 + 6 * 0 + 6 ≤ rm.slots; omega) hlocks ?_ hSS.2.2 (Nat.le_refl _) (Nat.le_refl _)
    · intro w hw
      simp only [List.mem_cons, List.not_mem_nil, or_false] at hw
      rcases hw with rfl | rfl | rfl | rfl
      · exact va_Nw.use rfl (g6 _ (by simp [pvXdecl]))
      · exact va_Nw.use rfl (g6 _ (by simp [pvXdecl]))
      · exact va_Nw.use rfl (g6 _ (by simp [pvXdecl]))
      · exact va_Nw.use rfl (g5 _ pvXn_cast)
    · intro t hal hsz9 hsm
      refine ⟨k, z', rfl, hrz, hq, fun j q hj => (hP' j q hj).kept (hsm _ (hP' j q hj).lt), Nat.le_trans hSS.1 hsz9, fun q hq1 hq2 => by rw [hsm q (Nat.lt_of_lt_of_le hq1 hSS.1)]; exact hSS.2.1 q hq1 hq2⟩
  have hXok : ∀ (n pc : Nat) (ls : pvL) (st : List pvV) (z : pvM) (g : Nat), pvX pvCl39 (0, fun _ => 0) F Ca Co Ex 1 (pvRt ret Q) (pvTh Q) blk cut (pvKc fun pc ls z => SWm pc ls [] z 0) n pc ls st z g → SWm pc ls st z g := by
    intro n
    induction n with
    | zero => exact fun _ _ _ _ _ h => False.elim h
    | succ n ih =>
      intro pc ls st z' g h
      simp only [pvX] at h
      split at h
      · rename_i mm hcut
        obtain ⟨rfl, rfl, hk⟩ := h
        intro hL hS hz' H locs arr hP' hSS hl
        exact hk (pvOkL_mk mm hL) hS hz' H locs arr hP' hSS (pvLh_mk mm hl)
      · exact pvB_ok M hTb hCo hF hCl (hCa _ _) hWc hL0 hsx (fun id h9 _ => hL0.2.1 id h9) (fun h => absurd h (by decide)) (fun ix h9 => by obtain ⟨a1, a2, a3, a4, a5, a6⟩ := hcp ix h9; exact ⟨hts _ a1, hts _ a2, hts _ a3, hts _ a4, a5, a6⟩) (by rw [hrm.1, hrm.2]; exact ⟨Nat.le_refl _, Nat.le_refl _⟩) hD' (fun _ _ _ _ _ h => ih _ _ _ _ _ h) hRt hTx hNw _ _ _ _ _ _ (hblk pc) h
  have hclo : pvClo F Ca Co Ex ret blk cut Q (fun pc ls z => SWm pc ls [] z 0) := by
    intro n pc ls z' h hL hS hz' H locs arr hP' hSS hl
    exact pvB_ok M hTb hCo hF hCl (hCa _ _) hWc hL0 hsx (fun id h9 _ => hL0.2.1 id h9) (fun h => absurd h (by decide)) (fun ix h9 => by obtain ⟨a1, a2, a3, a4, a5, a6⟩ := hcp ix h9; exact ⟨hts _ a1, hts _ a2, hts _ a3, hts _ a4, a5, a6⟩) (by rw [hrm.1, hrm.2]; exact ⟨Nat.le_refl _, Nat.le_refl _⟩) hD' (fun _ _ _ _ _ h => hXok n _ _ _ _ _ h) hRt hTx hNw _ _ _ _ _ _ (hblk pc) (h hL hz') hL hS hz' H locs arr hP' hSS hl
  obtain ⟨hcs, hgo⟩ := H0 Q _ hclo as z hC hOk hz
  rw [lg_entry_eq]
  exact hgo (pvEn_ok _ hOk) (fun v hv => absurd hv List.not_mem_nil) hz s.heap [] _ hP va_S.rf (pvLh_en hcs)
