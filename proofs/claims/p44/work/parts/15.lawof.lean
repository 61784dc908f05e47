/-! a method of the law: from what its code owes to its contract over the machine -/
set_option maxHeartbeats 4000000 in
theorem pvSeg {p : Program} {l : Launch} {e : Env} {R : Room} {s : State} {m : MethodId} {args : Array Value} {below : List Frame} {meth : Method} {c : Code} {Qm : State → Prop}
    {own : String} {cc : ByteArray} {nL : Nat} {Tb : List Jvm.Cond} {F : pvF} {Ca : pvCa} {Co : pvCo} {L : List Nat} {c0 s0 Gm : Nat} {sx : pvSx} {ad : Nat → Nat} {D : va_G} {cI cJ cD : ClassId} {A : Nat → Prop}
    {Rt : Option pvV → pvM → Nat → Prop} {blk : Nat → List (Instr × Nat)} {cut : Nat → Option (List Bool)} {SW0 : pvJ}
    (M : pvMc own cc nL Tb p s m args meth c) (hTb : ∀ w ∈ Tb, goodWord w = true) (hCo : pvCoOk own Tb Co) (hF : pvFOk own Tb F) (hCl : pvClOk Tb) (hCa : pvCaOk l R own Tb (pvLm L) (pvScx sx) Ca) (hW : pvWc D cI cJ cD sx A s)
    (hL0 : pvWl L) (hsx : ad 60 = sx.1) (hR : c0 + Gm ≤ R.cells ∧ s0 + 6 * Gm ≤ R.slots) (hD : ∀ z, va_D A (pvWs ad cI cJ cD L z)) (hblk : ∀ pc, pvChain cc pc (blk pc))
    (hSW : ∀ pc ls st z g, SW0 pc ls st z g → pvSW p l e R s m args below meth c Qm nL L c0 s0 ad D cI cJ cD A pc ls st z g)
    (hRt : ∀ (i : Instr) (v : Option pvV) (pc g : Nat) (z : pvM), pvRk i v = true → decode cc pc = .ok (i, 1) → Rt v z g → (∀ x, v = some x → pvOk x) → pvRng z → ∀ (H : Heap) (locs : List Loc) (arr : Array Slot), va_P D vwCl (pvWs ad cI cJ cD L z) H → va_S A s.heap H locs →
      W p l e R s m args below meth c H locs (c0 + g) (s0 + 6 * g) Qm (F0 m pc arr (v.map (pvRe ad)).toList)) :
    ∀ (n pc : Nat) (ls : pvL) (st : List pvV) (z : pvM) (g : Nat), pvStG (pvLm L) (pvScx sx) F Ca Co Gm Rt blk cut SW0 n pc ls st z g → pvSW p l e R s m args below meth c Qm nL L c0 s0 ad D cI cJ cD A pc ls st z g := by
  have hNw : ∀ (ix ic k pc g : Nat) (z : pvM), (fun _ => none : pvEx) ix = some k → k < 4 → decode cc pc = .ok (.new ix, 3) → decode cc (pc + 3) = .ok (.dup, 1) → decode cc (pc + 4) = .ok (.invokespecial ic, 3) → decode cc (pc + 7) = .ok (.athrow, 1) → g < Gm → (fun _ _ _ _ => False : Nat → Nat → pvM → Nat → Prop) k (pc + 7) z g → pvRng z →
      ∀ (H : Heap) (locs : List Loc) (arr : Array Slot), va_P D vwCl (pvWs ad cI cJ cD L z) H → va_S A s.heap H locs → arr.size = nL → W p l e R s m args below meth c H locs (c0 + g) (s0 + 6 * g) Qm (F0 m pc arr []) := fun ix ic k pc g z h => by cases h
  have hB : ∀ (J : pvJ), (∀ pc ls st z g, J pc ls st z g → pvSW p l e R s m args below meth c Qm nL L c0 s0 ad D cI cJ cD A pc ls st z g) → ∀ (cs : List (Instr × Nat)) (pc : Nat) (ls : pvL) (st : List pvV) (z : pvM) (g : Nat), pvChain cc pc cs → pvB (pvLm L) (pvScx sx) F Ca Co (fun _ => none) Gm J Rt (fun _ _ _ _ => False) cs pc ls st z g → pvSW p l e R s m args below meth c Qm nL L c0 s0 ad D cI cJ cD A pc ls st z g :=
    fun J hJ => pvB_ok M hTb hCo hF hCl hCa hW hL0 hsx (fun id h h6 => h.resolve_right h6) (fun _ => rfl) (fun ix h => by rcases h with h | h <;> cases h) hR hD hJ hRt (fun k pc g z h => h.elim) hNw
  have hX : ∀ (n pc : Nat) (ls : pvL) (st : List pvV) (z : pvM) (g : Nat), pvX (pvLm L) (pvScx sx) F Ca Co (fun _ => none) Gm Rt (fun _ _ _ _ => False) blk cut SW0 n pc ls st z g → pvSW p l e R s m args below meth c Qm nL L c0 s0 ad D cI cJ cD A pc ls st z g := by
    intro n
    induction n with
    | zero => exact fun _ _ _ _ _ h => False.elim h
    | succ n ih =>
      intro pc ls st z' g h
      simp only [pvX] at h
      split at h
      · rename_i mm hcut
        intro hL hS hz' H locs arr hP' hSS hl
        exact hSW _ _ _ _ _ h (pvOkL_mk mm hL) hS hz' H locs arr hP' hSS (pvLh_mk mm hl)
      · exact hB _ (fun _ _ _ _ _ h => ih _ _ _ _ _ h) _ _ _ _ _ _ (hblk pc) h
  exact fun n pc ls st z g h => hB _ (fun _ _ _ _ _ h => hX n _ _ _ _ _ h) _ _ _ _ _ _ (hblk pc) h
set_option maxHeartbeats 4000000 in
/-- a method of the law that makes nothing by itself -/
theorem pvMetW_of {l : Launch} {y : MethodName} {cc : ByteArray} {nL : Nat} {ret : Option FieldType} {rm : Room} {co : Nat} {C : (Nat → Prop) → Nat × (Nat → Int) → pvC} {F : pvF} {Ca : (Nat → Prop) → Nat × (Nat → Int) → pvCa} {Co : pvCo} {blk : Nat → List (Instr × Nat)} {cut : Nat → Option (List Bool)} {Tb : List Jvm.Cond}
    (hy : plainName y.cls = true) (hTb : ∀ w ∈ Tb, goodWord w = true) (hCo : pvCoOk y.cls Tb Co) (hF : pvFOk y.cls Tb F) (hCl : pvClOk Tb) (hCa : ∀ lm sc, pvCaOk l rm y.cls Tb lm sc (Ca lm sc))
    (hrm : rm.cells = max 1 co ∧ rm.slots = 6 * max 1 co) (hblk : ∀ pc, pvChain cc pc (blk pc)) (H0 : ∀ lm sc, pvOkG lm sc F (Ca lm sc) Co (max 1 co) co ret blk cut nL (C lm sc)) : pvMetW l y (Cond.code y cc nL ret :: Tb) rm co C := by
  intro ad D cI cJ cD sx L A as z Q hL0 hsx hOk hz hC
  refine Met.ofW (cc := cc) (maxL := nL) (ret := ret) hy rfl ?_
  intro p e s m args below meth c s₁ B hml hv
  obtain ⟨rfl, hWc, hP, hD⟩ := hv
  have hx := B.exec
  have hb := B.bytes
  have hr := B.returns
  have hts0 := atoms_spec (ws := Cond.code y cc nL ret :: Tb) B.pre
  have hts : ∀ w ∈ Tb, w.before (as.map (pvRe ad)).toArray s = true := fun w hw => hts0 w (List.mem_cons_of_mem _ hw)
  have hown : s.vm.findClass y.cls = some m.cls := findClass_of_methodNamed B.named
  have hlocks := B.notSynchronized
  have M : pvMc y.cls cc nL Tb p s m (as.map (pvRe ad)).toArray meth c := ⟨hx, hb, hml, hown, hts, hlocks⟩
  let Qm : State → Prop := MQ below (pvQc ad D cI cJ cD L A co Q) (as.map (pvRe ad)).toArray s (max 1 co) (6 * max 1 co) A
  let SWm : pvJ := pvSW p l e rm s m (as.map (pvRe ad)).toArray below meth c Qm nL L 0 0 ad D cI cJ cD A
  have hD' : ∀ z, va_D A (pvWs ad cI cJ cD L z) := fun z' => pvD_any hD
  have hRt : ∀ (i : Instr) (v : Option pvV) (pc g : Nat) (z : pvM), pvRk i v = true → decode cc pc = .ok (i, 1) → pvRtG co ret Q v z g → (∀ x, v = some x → pvOk x) → pvRng z → ∀ (H : Heap) (locs : List Loc) (arr : Array Slot), va_P D vwCl (pvWs ad cI cJ cD L z) H → va_S A s.heap H locs →
      W p l e rm s m (as.map (pvRe ad)).toArray below meth c H locs (0 + g) (0 + 6 * g) Qm (F0 m pc arr (v.map (pvRe ad)).toList) := by
    intro i v pc g z' hrk hd hret hok hrz H locs arr hP' hSS
    obtain ⟨hg, hrv, hq⟩ := hret
    have hfin : ∀ t : State, t.heap = H → s.WarmedH t.vm → ∃ (v' : Option pvV) (z'' : pvM), (Outcome.returned (v.map (pvRe ad)) = .returned (v'.map (pvRe ad))) ∧ (∀ x, v' = some x → pvOk x) ∧ pvRng z'' ∧ Q (.inl v') z'' ∧ va_P D vwCl (pvWs ad cI cJ cD L z'') t.heap ∧ va_F A s t := fun t ht hW => ⟨v, z', rfl, hok, hrz, hq, by rw [ht]; exact hP', hSS.F ht⟩
    have up : W p l e rm s m (as.map (pvRe ad)).toArray below meth c H locs co (6 * co) (MQ below (fun _ st o t => ∃ (v' : Option pvV) (z'' : pvM), o = .returned (v'.map (pvRe ad)) ∧ (∀ x, v' = some x → pvOk x) ∧ pvRng z'' ∧ Q (.inl v') z'' ∧ va_P D vwCl (pvWs ad cI cJ cD L z'') t.heap ∧ va_F A st t) (as.map (pvRe ad)).toArray s co (6 * co) A) (F0 m pc arr (v.map (pvRe ad)).toList) →
        W p l e rm s m (as.map (pvRe ad)).toArray below meth c H locs (0 + g) (0 + 6 * g) Qm (F0 m pc arr (v.map (pvRe ad)).toList) := by
      intro k
      refine W.widen (show 0 + g ≤ co by omega) (show 0 + 6 * g ≤ 6 * co by omega) ?_
      intro T hT X
      obtain ⟨t, a1, o, b1, b2, ⟨v', z'', c1, c2, c3, c4, c5, c6⟩, L, d1, d2⟩ := k T hT X
      obtain ⟨f1, f2, f3⟩ := d1
      refine ⟨t, a1, o, b1, b2, ⟨v', z'', c1, c2, c3, c4, c5, c6, fun h0 => ?_⟩, L, ⟨f1, f2, f3.mono (by omega) (by omega)⟩, d2⟩
      subst h0
      exact pvSz_of_end ⟨f1, f2, f3⟩
    refine up ?_
    have hl2 := hSS.2.2
    cases i <;> first | (cases hrk; done) | skip
    case ireturn =>
      rcases v with _ | (a | a | a | a | a) <;> first | (cases hrk; done) | skip
      rcases ret with _ | (_ | _ | _ | _ | _ | _ | _ | _ | nm | ty) <;> first | (exact hrv.elim) | skip
      · exact W.iret hx hb hr hfin hl2 hd
      · exact W.zret (ty := .boolean) hx hb hr (by rcases hrv with rfl | rfl <;> rfl) hfin hl2 hd
    case lreturn =>
      rcases v with _ | (a | a | a | a | a) <;> first | (cases hrk; done) | skip
      rcases ret with _ | (_ | _ | _ | _ | _ | _ | _ | _ | nm | ty) <;> first | (exact hrv.elim) | skip
      exact W.lret hx hb hr hfin hl2 hd
    case areturn =>
      rcases v with _ | (a | a | a | a | a) <;> first | (cases hrk; done) | skip
      rcases ret with _ | (_ | _ | _ | _ | _ | _ | _ | _ | nm | ty) <;> first | (exact hrv.elim) | skip
      exact W.aret hx hb hr (Or.inl ⟨nm, rfl⟩) (Or.inr ⟨_, rfl⟩) hfin hl2 hd
    case dreturn =>
      rcases v with _ | (a | a | a | a | a) <;> first | (cases hrk; done) | skip
      rcases ret with _ | (_ | _ | _ | _ | _ | _ | _ | _ | nm | ty) <;> first | (exact hrv.elim) | skip
      exact W.dret hx hb hr hfin hl2 hd
    case freturn =>
      rcases v with _ | (a | a | a | a | a) <;> first | (cases hrk; done) | skip
      rcases ret with _ | (_ | _ | _ | _ | _ | _ | _ | _ | nm | ty) <;> first | (exact hrv.elim) | skip
      exact W.fret hx hb hr hfin hl2 hd
    case return_ =>
      rcases v with _ | (a | a | a | a | a) <;> first | (cases hrk; done) | skip
      rcases ret with _ | (_ | _ | _ | _ | _ | _ | _ | _ | nm | ty) <;> first | (exact hrv.elim) | skip
      exact W.vret hx hb hr hfin hl2 hd
  have hclo : pvCloG (pvLm L) (pvScx sx) F (Ca (pvLm L) (pvScx sx)) Co (max 1 co) (pvRtG co ret Q) blk cut SWm := by
    intro n pc ls st z' g h hL hS hz' H locs arr hP' hSS hl
    exact pvSeg M hTb hCo hF hCl (hCa _ _) hWc hL0 hsx (by rw [hrm.1, hrm.2]; omega) hD' hblk (fun _ _ _ _ _ h => h) hRt n pc ls st z' g (h hL hS hz') hL hS hz' H locs arr hP' hSS hl
  obtain ⟨hcs, hgo⟩ := H0 (pvLm L) (pvScx sx) Q _ hclo as z hC hOk hz
  rw [lg_entry_eq]
  exact hgo (pvEn_ok _ hOk) (fun v hv => absurd hv List.not_mem_nil) hz s.heap [] _ hP va_S.rf (pvLh_en hcs)
