/-! contracts over the machine: helpers -/
def pvEx0 : pvEx := fun _ => none
/-- an instruction that makes no exception and copies no row -/
def pvFrB (Ex : pvEx) : Instr → Bool
  | .new _ => false
  | .invokestatic ix => !(Ex ix == some 100) && !(Ex ix == some 101)
  | _ => true
theorem pvHp_ex {lim : Nat → Prop} {sc : Nat × (Nat → Int)} {F : pvF} {Ex : pvEx} {i : Instr} (h : pvFrB Ex i = true) (st : List pvV) (z : pvM) : pvHp lim sc F Ex i st z = pvHp lim sc F pvEx0 i st z := by
  cases i <;> first | rfl | skip
  case invokestatic ix =>
    simp only [pvFrB, Bool.and_eq_true, Bool.not_eq_true', beq_eq_false_iff_ne] at h
    simp only [pvHp, if_neg h.1, if_neg h.2, pvEx0]
    rfl
set_option maxHeartbeats 4000000 in
theorem pvB_ex {lim : Nat → Prop} {sc : Nat × (Nat → Int)} {F : pvF} {Ca : pvCa} {Co : pvCo} {Ex : pvEx} {Gm : Nat} {J : pvJ} {Rt : Option pvV → pvM → Nat → Prop} {Th : Nat → Nat → pvM → Nat → Prop} (cs : List (Instr × Nat)) (h : cs.all (fun q => pvFrB Ex q.1) = true) :
    ∀ pc ls st z g, pvB lim sc F Ca Co Ex Gm J Rt Th cs pc ls st z g = pvB lim sc F Ca Co pvEx0 Gm J Rt Th cs pc ls st z g := by
  induction cs with
  | nil => exact fun _ _ _ _ _ => rfl
  | cons q t ih =>
    obtain ⟨i, n⟩ := q
    simp only [List.all_cons, Bool.and_eq_true] at h
    have ih' := ih h.2
    have hh := pvHp_ex (lim := lim) (sc := sc) (F := F) h.1
    have h1 := h.1
    intro pc ls st z g
    cases i <;> first | (simp only [pvB, ih', hh]; done) | exact absurd h1 Bool.false_ne_true
theorem pvX_ex {lim : Nat → Prop} {sc : Nat × (Nat → Int)} {F : pvF} {Ca : pvCa} {Co : pvCo} {Ex : pvEx} {Gm : Nat} {Rt : Option pvV → pvM → Nat → Prop} {Th : Nat → Nat → pvM → Nat → Prop} {blk : Nat → List (Instr × Nat)} {cut : Nat → Option (List Bool)} {K : pvJ} (hb : ∀ pc, (blk pc).all (fun q => pvFrB Ex q.1) = true) (n : Nat) :
    pvX lim sc F Ca Co Ex Gm Rt Th blk cut K n = pvX lim sc F Ca Co pvEx0 Gm Rt Th blk cut K n := by
  induction n with
  | zero => rfl
  | succ n ih =>
    funext pc ls st z g
    simp only [pvX]
    split
    · rfl
    · rw [pvB_ex _ (hb pc), ih]
theorem pvOkM_ex {F : pvF} {Ca : pvCa} {Co : pvCo} {Ex : pvEx} {ret : Option FieldType} {blk : Nat → List (Instr × Nat)} {cut : Nat → Option (List Bool)} {nL : Nat} {C : pvC} (h : pvOkM F Ca Co Ex ret blk cut nL C) (hb : ∀ pc, (blk pc).all (fun q => pvFrB Ex q.1) = true) : pvOkM F Ca Co pvEx0 ret blk cut nL C := by
  intro Q SW hc as z hC hS hz
  refine h Q SW (fun n pc ls z h9 => hc n pc ls z (fun h1 h2 => ?_)) as z hC hS hz
  have h3 := h9 h1 h2
  simp only [pvSt1] at h3 ⊢
  rw [← pvB_ex _ (hb pc), ← pvX_ex hb]
  exact h3
/-- one call's premises -/
def pvCe (l : Launch) (R : Room) (own : String) (Tb : List Jvm.Cond) (lm : Nat → Prop) (sc : Nat × (Nat → Int)) (ix n : Nat) (b : Bool) (ci co : Nat) (C : pvC) : Prop :=
  ∃ (y : MethodName) (bytes : ByteArray) (maxL : Nat) (ret : Option FieldType) (rm : Room),
    rm.frames + 1 ≤ R.frames ∧ 8 + (maxL + 11) + rm.locals ≤ R.locals ∧ Cond.initialized y.cls ∈ Tb ∧ (y.cls ≠ "java/lang/invoke/MethodHandle" ∧ y.cls ≠ "java/lang/invoke/VarHandle") ∧
    ((b = true ∧ Cond.methodLink own ix y ∈ Tb ∧ Cond.static y ∈ Tb ∧ (parseMethodDescriptor y.desc).map (fun d => d.parameters.length) = some n ∧
        ((co = 0 ∧ rm.cells = 1 ∧ rm.slots = 6 ∧ Cond.code y bytes maxL ret ∈ Tb ∧ pvMet l y (Cond.code y bytes maxL ret :: Tb) rm C) ∨
         (rm.cells = max 1 co ∧ rm.slots = 6 * max 1 co ∧ ∃ Cx : (Nat → Prop) → Nat × (Nat → Int) → pvC, C = Cx lm sc ∧
           ((∃ hh : List (Nat × Nat × Nat × Nat), Cond.codeWith y bytes maxL ret hh ∈ Tb ∧ pvMetW l y (Cond.codeWith y bytes maxL ret hh :: Tb) rm co Cx) ∨
            (Cond.code y bytes maxL ret ∈ Tb ∧ pvMetW l y (Cond.code y bytes maxL ret :: Tb) rm co Cx))))) ∨
     (b = false ∧ co = 0 ∧ rm.cells = 1 ∧ rm.slots = 6 ∧ Cond.methodLink own ix y ∈ Tb ∧ Cond.code y bytes maxL ret ∈ Tb ∧ pvMet l y (Cond.code y bytes maxL ret :: Tb) rm C ∧ Cond.instanceMethod y ∈ Tb ∧ Cond.selects y.cls y y ∈ Tb ∧ (∃ k, n = k + 1 ∧ (parseMethodDescriptor y.desc).map (fun d => d.parameters.length) = some k) ∧ ∃ (T : u_T) (N : Nat), vwCl[ci]? = some (y.cls, T, N)) ∨
     (co = 0 ∧ rm.cells = 1 ∧ rm.slots = 6 ∧ (own, ix, y) ∈ pvXnest ∧ Cond.code y bytes maxL ret ∈ Tb ∧ pvMetN l y (Cond.code y bytes maxL ret :: Tb) rm C ∧
        ((b = true ∧ Cond.static y ∈ Tb ∧ (parseMethodDescriptor y.desc).map (fun d => d.parameters.length) = some n) ∨
         (b = false ∧ Cond.instanceMethod y ∈ Tb ∧ Cond.selects y.cls y y ∈ Tb ∧ (∃ k, n = k + 1 ∧ (parseMethodDescriptor y.desc).map (fun d => d.parameters.length) = some k) ∧ ∃ (T : u_T) (N : Nat), vwCl[ci]? = some (y.cls, T, N)))))
theorem pvCaOk_i {l : Launch} {R : Room} {own : String} {Tb : List Jvm.Cond} {lm : Nat → Prop} {sc : Nat × (Nat → Int)} {Ca : pvCa} (h : ∀ ix n b ci co C, Ca ix = some (n, b, ci, co, C) → pvCe l R own Tb lm sc ix n b ci co C) : pvCaOk l R own Tb lm sc Ca := h
def pvPn (y : MethodName) : Option Nat := (parseMethodDescriptor y.desc).map (fun d => d.parameters.length)
def pvRo (co : Nat) (rm R : Room) (maxL : Nat) : Bool := (rm.cells == max 1 co && rm.slots == 6 * max 1 co) && (Nat.ble (rm.frames + 1) R.frames && Nat.ble (8 + (maxL + 11) + rm.locals) R.locals)
theorem pvRo_s {co : Nat} {rm R : Room} {maxL : Nat} (h : pvRo co rm R maxL = true) : rm.cells = max 1 co ∧ rm.slots = 6 * max 1 co ∧ rm.frames + 1 ≤ R.frames ∧ 8 + (maxL + 11) + rm.locals ≤ R.locals := by
  simp only [pvRo, Bool.and_eq_true, beq_iff_eq] at h
  exact ⟨h.1.1, h.1.2, Nat.le_of_ble_eq_true h.2.1, Nat.le_of_ble_eq_true h.2.2⟩
def pvNh (y : MethodName) : Bool := y.cls != "java/lang/invoke/MethodHandle" && y.cls != "java/lang/invoke/VarHandle"
theorem pvNh_s {y : MethodName} (h : pvNh y = true) : y.cls ≠ "java/lang/invoke/MethodHandle" ∧ y.cls ≠ "java/lang/invoke/VarHandle" := by
  simpa only [pvNh, Bool.and_eq_true, bne_iff_ne] using h
theorem pvCe_S {l : Launch} {R rm : Room} {own : String} {lm : Nat → Prop} {sc : Nat × (Nat → Int)} {ix n ci maxL : Nat} {C : pvC} {y : MethodName} {bytes : ByteArray} {ret : Option FieldType} (met : pvMet l y (Cond.code y bytes maxL ret :: pvTb) rm C) (hr : pvRo 0 rm R maxL = true) (hi : Cond.initialized y.cls ∈ pvTb) (hy : pvNh y = true)
    (hl : Cond.methodLink own ix y ∈ pvTb) (hs : Cond.static y ∈ pvTb) (hp : pvPn y = some n) (hc : Cond.code y bytes maxL ret ∈ pvTb) : pvCe l R own pvTb lm sc ix n true ci 0 C := by
  obtain ⟨r1, r2, r3, r4⟩ := pvRo_s hr
  exact ⟨y, bytes, maxL, ret, rm, r3, r4, hi, pvNh_s hy, Or.inl ⟨rfl, hl, hs, hp, Or.inl ⟨rfl, r1, r2, hc, met⟩⟩⟩
theorem pvCe_V {l : Launch} {R rm : Room} {own : String} {lm : Nat → Prop} {sc : Nat × (Nat → Int)} {ix k ci maxL N : Nat} {C : pvC} {y : MethodName} {bytes : ByteArray} {ret : Option FieldType} {T : u_T} (met : pvMet l y (Cond.code y bytes maxL ret :: pvTb) rm C) (hr : pvRo 0 rm R maxL = true) (hi : Cond.initialized y.cls ∈ pvTb) (hy : pvNh y = true)
    (hl : Cond.methodLink own ix y ∈ pvTb) (hin : Cond.instanceMethod y ∈ pvTb) (hsel : Cond.selects y.cls y y ∈ pvTb) (hp : pvPn y = some k) (hcl : vwCl[ci]? = some (y.cls, T, N)) (hc : Cond.code y bytes maxL ret ∈ pvTb) : pvCe l R own pvTb lm sc ix (k + 1) false ci 0 C := by
  obtain ⟨r1, r2, r3, r4⟩ := pvRo_s hr
  exact ⟨y, bytes, maxL, ret, rm, r3, r4, hi, pvNh_s hy, Or.inr (Or.inl ⟨rfl, rfl, r1, r2, hl, hc, met, hin, hsel, ⟨k, rfl, hp⟩, T, N, hcl⟩)⟩
theorem pvCe_NS {l : Launch} {R rm : Room} {own : String} {lm : Nat → Prop} {sc : Nat × (Nat → Int)} {ix n ci maxL : Nat} {C : pvC} {y : MethodName} {bytes : ByteArray} {ret : Option FieldType} (met : pvMetN l y (Cond.code y bytes maxL ret :: pvTb) rm C) (hr : pvRo 0 rm R maxL = true) (hi : Cond.initialized y.cls ∈ pvTb) (hy : pvNh y = true)
    (hl : (own, ix, y) ∈ pvXnest) (hs : Cond.static y ∈ pvTb) (hp : pvPn y = some n) (hc : Cond.code y bytes maxL ret ∈ pvTb) : pvCe l R own pvTb lm sc ix n true ci 0 C := by
  obtain ⟨r1, r2, r3, r4⟩ := pvRo_s hr
  exact ⟨y, bytes, maxL, ret, rm, r3, r4, hi, pvNh_s hy, Or.inr (Or.inr ⟨rfl, r1, r2, hl, hc, met, Or.inl ⟨rfl, hs, hp⟩⟩)⟩
theorem pvCe_NV {l : Launch} {R rm : Room} {own : String} {lm : Nat → Prop} {sc : Nat × (Nat → Int)} {ix k ci maxL N : Nat} {C : pvC} {y : MethodName} {bytes : ByteArray} {ret : Option FieldType} {T : u_T} (met : pvMetN l y (Cond.code y bytes maxL ret :: pvTb) rm C) (hr : pvRo 0 rm R maxL = true) (hi : Cond.initialized y.cls ∈ pvTb) (hy : pvNh y = true)
    (hl : (own, ix, y) ∈ pvXnest) (hin : Cond.instanceMethod y ∈ pvTb) (hsel : Cond.selects y.cls y y ∈ pvTb) (hp : pvPn y = some k) (hcl : vwCl[ci]? = some (y.cls, T, N)) (hc : Cond.code y bytes maxL ret ∈ pvTb) : pvCe l R own pvTb lm sc ix (k + 1) false ci 0 C := by
  obtain ⟨r1, r2, r3, r4⟩ := pvRo_s hr
  exact ⟨y, bytes, maxL, ret, rm, r3, r4, hi, pvNh_s hy, Or.inr (Or.inr ⟨rfl, r1, r2, hl, hc, met, Or.inr ⟨rfl, hin, hsel, ⟨k, rfl, hp⟩, T, N, hcl⟩⟩)⟩
theorem pvCe_W {l : Launch} {R rm : Room} {own : String} {lm : Nat → Prop} {sc : Nat × (Nat → Int)} {ix n ci co maxL : Nat} {C : (Nat → Prop) → Nat × (Nat → Int) → pvC} {y : MethodName} {bytes : ByteArray} {ret : Option FieldType} {hh : List (Nat × Nat × Nat × Nat)} (met : pvMetW l y (Cond.codeWith y bytes maxL ret hh :: pvTb) rm co C) (hr : pvRo co rm R maxL = true) (hi : Cond.initialized y.cls ∈ pvTb) (hy : pvNh y = true)
    (hl : Cond.methodLink own ix y ∈ pvTb) (hs : Cond.static y ∈ pvTb) (hp : pvPn y = some n) (hc : Cond.codeWith y bytes maxL ret hh ∈ pvTb) : pvCe l R own pvTb lm sc ix n true ci co (C lm sc) := by
  obtain ⟨r1, r2, r3, r4⟩ := pvRo_s hr
  exact ⟨y, bytes, maxL, ret, rm, r3, r4, hi, pvNh_s hy, Or.inl ⟨rfl, hl, hs, hp, Or.inr ⟨r1, r2, C, rfl, Or.inl ⟨hh, hc, met⟩⟩⟩⟩
theorem pvCe_L {l : Launch} {R rm : Room} {own : String} {lm : Nat → Prop} {sc : Nat × (Nat → Int)} {ix n ci co maxL : Nat} {C : (Nat → Prop) → Nat × (Nat → Int) → pvC} {y : MethodName} {bytes : ByteArray} {ret : Option FieldType} (met : pvMetW l y (Cond.code y bytes maxL ret :: pvTb) rm co C) (hr : pvRo co rm R maxL = true) (hi : Cond.initialized y.cls ∈ pvTb) (hy : pvNh y = true)
    (hl : Cond.methodLink own ix y ∈ pvTb) (hs : Cond.static y ∈ pvTb) (hp : pvPn y = some n) (hc : Cond.code y bytes maxL ret ∈ pvTb) : pvCe l R own pvTb lm sc ix n true ci co (C lm sc) := by
  obtain ⟨r1, r2, r3, r4⟩ := pvRo_s hr
  exact ⟨y, bytes, maxL, ret, rm, r3, r4, hi, pvNh_s hy, Or.inl ⟨rfl, hl, hs, hp, Or.inr ⟨r1, r2, C, rfl, Or.inr ⟨hc, met⟩⟩⟩⟩
/-! a method by its own name -/
theorem vx_ofWF {l : Launch} {y : MethodName} {ws ws' : List Cond} {rm : Room} {Pc : Array Value → State → Prop} {Qc : Array Value → State → Outcome → State → Prop} {XC : String → State → State → Prop} {mc ms : Nat} {free : Addr → Prop} {cc : ByteArray} {maxL : Nat} {ret : Option FieldType}
    (hy : plainFor y = true) (hw : ws = Cond.code y cc maxL ret :: ws')
    (body : ∀ p e s m args below meth c s₁, BodyLoose p l y (headSpec ws rm) cc maxL ret e s m args below meth c s₁ → c.maxLocals = maxL → (∀ x ∈ c.exceptionTable.toList, False) → Pc args s →
      W p l e (headSpec ws rm).room s m args below meth c s.heap [] 0 0 (vx_MQ below Qc XC args s mc ms free) (entryFrame m args maxL)) : vx_Met l y ws rm Pc Qc XC mc ms free := by
  refine MetFree.of_bodySF (code := cc) (maxLocals := maxL) (ret := ret) hy ?_ ?_
  · intro args s m h hn
    obtain ⟨meth, c, h1, h2, h3, h4, h5, h6, -, -⟩ := Cond.code_spec hn (atoms_spec (ws := ws) h _ (by rw [hw]; exact List.mem_cons_self))
    exact ⟨meth, c, h1, h2, h3, h4, h5, h6⟩
  · intro p e s m args below meth c s₁ B hml hP _
    have hh0 : s₁.heap = s.heap := by rw [B.state]; rfl
    have ht : ∀ x ∈ c.exceptionTable.toList, False := by
      obtain ⟨meth9, c9, h1, h2, -, -, -, -, h7, -⟩ := Cond.code_spec B.named (atoms_spec (ws := ws) B.pre _ (by rw [hw]; exact List.mem_cons_self))
      cases Option.some.inj (h1.symm.trans B.method)
      cases Option.some.inj (h2.symm.trans (Stand.of_body B).code)
      intro x hx
      rw [Array.isEmpty_iff.mp h7] at hx
      cases hx
    obtain ⟨t, a1, o, b1, b2, b3⟩ := body p e s m args below meth c s₁ B hml ht hP s₁ hh0 (Stand.of_body B)
    exact ⟨t, o, a1, b1, b2, b3⟩
set_option maxHeartbeats 4000000 in
theorem pvMet_ofF {l : Launch} (hflags : l.stackTraces = false) {y : MethodName} {cc : ByteArray} {nL : Nat} {ret : Option FieldType} {rm : Room} {C : pvC} {F : pvF} {Ca : pvCa} {Co : pvCo} {Ex : pvEx} {blk : Nat → List (Instr × Nat)} {cut : Nat → Option (List Bool)} {Tb : List Jvm.Cond}
    (hy : plainFor y = true) (hTb : ∀ w ∈ Tb, goodWord w = true) (hCo : pvCoOk y.cls Tb Co) (hF : pvFOk y.cls Tb F) (hCl : pvClOk Tb) (hCa : ∀ lm sc, pvCaOk l rm y.cls Tb lm sc Ca)
    (hEx : pvExOk y.cls cc Tb Ex rm) (hcp : ∀ ix, Ex ix = some 100 ∨ Ex ix = some 101 → Cond.methodLink y.cls ix arraycopyName ∈ Tb ∧ Cond.native arraycopyName ∈ Tb ∧ Cond.static arraycopyName ∈ Tb ∧ Cond.initialized "java/lang/System" ∈ Tb ∧ 1 ≤ rm.frames ∧ 8 + (nativeFrameWords "java/lang/System" "arraycopy" 5 + 11) ≤ rm.locals)
    (hrm : rm.cells = 1 ∧ rm.slots = 6) (hblk : ∀ pc, pvChain cc pc (blk pc)) (H0 : pvOkM F Ca Co Ex ret blk cut nL C) : pvMet l y (Cond.code y cc nL ret :: Tb) rm C := by
  intro ad D cI cJ cD sx L A as z Q hL0 hsx hOk hz hC
  refine vx_ofWF (cc := cc) (maxL := nL) (ret := ret) hy rfl ?_
  intro p e s m args below meth c s₁ B hml htab hv
  obtain ⟨rfl, hWc, hP, hD⟩ := hv
  have hx := B.exec
  have hb := B.bytes
  have hr := B.returns
  have hts0 := atoms_spec (ws := Cond.code y cc nL ret :: Tb) B.pre
  have hts : ∀ w ∈ Tb, w.before (as.map (pvRe ad)).toArray s = true := fun w hw => hts0 w (List.mem_cons_of_mem _ hw)
  have hown : s.vm.findClass y.cls = some m.cls := findClass_of_methodNamed B.named
  have hlocks := B.notSynchronized
  have M : pvMc y.cls cc nL Tb p s m (as.map (pvRe ad)).toArray meth c := ⟨hx, hb, hml, hown, hts, hlocks⟩
  have hA : ∀ q, s.heap.size ≤ q → A q := hWc.2.1
  let Qm : State → Prop := vx_MQ below (pvQc ad D cI cJ cD L A 0 Q) (pvXc ad D cI cJ cD L A Q) (as.map (pvRe ad)).toArray s 1 6 A
  let SWm : pvJ := pvSW p l e rm s m (as.map (pvRe ad)).toArray below meth c Qm nL L 0 0 ad D cI cJ cD A
  have hD' : ∀ z, va_D A (pvWs ad cI cJ cD L z) := fun z' => pvD_any hD
  have hRt : ∀ (i : Instr) (v : Option pvV) (pc g : Nat) (z : pvM), pvRk i v = true → decode cc pc = .ok (i, 1) → pvRt ret Q v z g → (∀ x, v = some x → pvOk x) → pvRng z → ∀ (H : Heap) (locs : List Loc) (arr : Array Slot), va_P D vwCl (pvWs ad cI cJ cD L z) H → va_S A s.heap H locs →
      W p l e rm s m (as.map (pvRe ad)).toArray below meth c H locs (0 + g) (0 + 6 * g) Qm (F0 m pc arr (v.map (pvRe ad)).toList) := by
    intro i v pc g z' hrk hd hret hok hrz H locs arr hP' hSS
    obtain ⟨rfl, hrv, hq⟩ := hret
    have hfin : ∀ t : State, t.heap = H → s.WarmedH t.vm → ∃ (v' : Option pvV) (z'' : pvM), (Outcome.returned (v.map (pvRe ad)) = .returned (v'.map (pvRe ad))) ∧ (∀ x, v' = some x → pvOk x) ∧ pvRng z'' ∧ Q (.inl v') z'' ∧ va_P D vwCl (pvWs ad cI cJ cD L z'') t.heap ∧ va_F A s t := fun t ht hW => ⟨v, z', rfl, hok, hrz, hq, by rw [ht]; exact hP', hSS.F ht⟩
    have up : W p l e rm s m (as.map (pvRe ad)).toArray below meth c H locs 0 0 (MQ below (fun _ st o t => ∃ (v' : Option pvV) (z'' : pvM), o = .returned (v'.map (pvRe ad)) ∧ (∀ x, v' = some x → pvOk x) ∧ pvRng z'' ∧ Q (.inl v') z'' ∧ va_P D vwCl (pvWs ad cI cJ cD L z'') t.heap ∧ va_F A st t) (as.map (pvRe ad)).toArray s 0 0 A) (F0 m pc arr (v.map (pvRe ad)).toList) →
        W p l e rm s m (as.map (pvRe ad)).toArray below meth c H locs (0 + 0) (0 + 6 * 0) Qm (F0 m pc arr (v.map (pvRe ad)).toList) := by
      intro k T hT X
      obtain ⟨t, a1, o, b1, b2, ⟨v', z'', c1, c2, c3, c4, c5, c6⟩, L, d1, d2⟩ := k T hT X
      obtain ⟨f1, f2, f3⟩ := d1
      exact ⟨t, a1, o, b1, b2, Or.inl ⟨⟨v', z'', c1, c2, c3, c4, c5, c6, fun _ => pvSz_of_end ⟨f1, f2, f3⟩⟩, L, ⟨f1, f2, f3.mono (Nat.zero_le _) (Nat.zero_le _)⟩, d2⟩⟩
    refine up ?_
    have hl2 := hSS.2.2
    cases i <;> first | (cases hrk; done) | skip
    case ireturn =>
      rcases v with _ | (a | a | a | a | a) <;> first | (cases hrk; done) | skip
      rcases ret with _ | (_ | _ | _ | _ | _ | _ | _ | _ | nm | ty) <;> first | (exact hrv.elim) | skip
      · exact W.iret hx hb hr hfin hl2 hd
      · exact W.zret (ty := .boolean) hx hb hr (by rcases hrv with rfl | rfl <;> rfl) hfin hl2 hd
    case lreturn =>
      rcases v with _ | (a | a | a | a | a) <;> first | (cases hrk; done) | skip
      rcases ret with _ | (_ | _ | _ | _ | _ | _ | _ | _ | nm | ty) <;> first | (exact hrv.elim) | skip
      exact W.lret hx hb hr hfin hl2 hd
    case areturn =>
      rcases v with _ | (a | a | a | a | a) <;> first | (cases hrk; done) | skip
      rcases ret with _ | (_ | _ | _ | _ | _ | _ | _ | _ | nm | ty) <;> first | (exact hrv.elim) | skip
      exact W.aret hx hb hr (Or.inl ⟨nm, rfl⟩) (Or.inr ⟨_, rfl⟩) hfin hl2 hd
    case dreturn =>
      rcases v with _ | (a | a | a | a | a) <;> first | (cases hrk; done) | skip
      rcases ret with _ | (_ | _ | _ | _ | _ | _ | _ | _ | nm | ty) <;> first | (exact hrv.elim) | skip
      exact W.dret hx hb hr hfin hl2 hd
    case freturn =>
      rcases v with _ | (a | a | a | a | a) <;> first | (cases hrk; done) | skip
      rcases ret with _ | (_ | _ | _ | _ | _ | _ | _ | _ | nm | ty) <;> first | (exact hrv.elim) | skip
      exact W.fret hx hb hr hfin hl2 hd
    case return_ =>
      rcases v with _ | (a | a | a | a | a) <;> first | (cases hrk; done) | skip
      rcases ret with _ | (_ | _ | _ | _ | _ | _ | _ | _ | nm | ty) <;> first | (exact hrv.elim) | skip
      exact W.vret hx hb hr hfin hl2 hd
  have hTx : ∀ (k pc g : Nat) (z : pvM), pvTh Q k pc z g → pvRng z → ∀ (H : Heap) (locs : List Loc) (arr : Array Slot) (ls : pvL) (q : Addr) (ce : Cell) (rest : List Value), pvLh ad ls arr nL → va_P D vwCl (pvWs ad cI cJ cD L z) H → va_S A s.heap H locs → H[q]? = some ce → ce.vm = .none → s.vm.findClass (pvXn k) = some ce.cls →
      vx_W p l e rm s m (as.map (pvRe ad)).toArray below meth c H locs (0 + g + 1) (0 + 6 * g + 6) Qm (F0 m pc arr rest) q := by
    intro k pc g z' hth hrz H locs arr ls q ce rest hl hP' hSS h1 h2 h3
    obtain ⟨rfl, hq⟩ := hth
    exact vx_out (fun x hx => (htab x hx).elim) hlocks h1 h2 h3 (fun t ht hal => ⟨k, z', rfl, hrz, hq, by rw [ht]; exact hP', hSS.F ht⟩) hSS.2.2 (Nat.le_refl _) (Nat.le_refl _)
  have hNw : ∀ (ix ic k pc g : Nat) (z : pvM), Ex ix = some k → k < 4 → decode cc pc = .ok (.new ix, 3) → decode cc (pc + 3) = .ok (.dup, 1) → decode cc (pc + 4) = .ok (.invokespecial ic, 3) → decode cc (pc + 7) = .ok (.athrow, 1) → g < 1 → pvTh Q k (pc + 7) z g → pvRng z →
      ∀ (H : Heap) (locs : List Loc) (arr : Array Slot), va_P D vwCl (pvWs ad cI cJ cD L z) H → va_S A s.heap H locs → arr.size = nL → W p l e rm s m (as.map (pvRe ad)).toArray below meth c H locs (0 + g) (0 + 6 * g) Qm (F0 m pc arr []) := by
    intro ix ic k pc g z' hE hk4 d0 d3 d4 d7 hg hth hrz H locs arr hP' hSS hsz
    obtain ⟨rfl, hq⟩ := hth
    obtain ⟨w1, w2, w3, w4, w5, w6, w7⟩ := hEx ix ic k pc hE hk4 d0 d4
    obtain ⟨g1, g2, g3, g4, g5, g6, g7, g8, g9, g10⟩ := hWc
    refine vx_throw0 hx hb hflags (names := ["java/lang/RuntimeException", "java/lang/Exception"]) (mc := 1) (ms := 6) (A := A) hown pvXn_fit (by intro n hn; simp only [List.mem_cons, List.not_mem_nil, or_false] at hn; rcases hn with rfl | rfl <;> rfl) (hts _ w1) (hts _ w2)
      (vx_hat (fun w hw => hts w (w3 w hw)) (fun w hw => by rw [w4] at hw; exact hw) ?_) w5 g3 g4 hSS (by rw [hsz, hml]) d0 d3 d4 d7 (fun x hx => (htab x hx).elim) (by show 2 + 3 < rm.frames; omega) (by show 0 + (13 * (2 + 1) + 42) ≤ rm.locals; omega) (by show 0 + 0 + 1 ≤ rm.cells; omega) (by show 0 + 6 * 0 + 6 ≤ rm.slots; omega) hlocks ?_ hSS.2.2 (Nat.le_refl _) (Nat.le_refl _)
    · intro w hw
      simp only [List.mem_cons, List.not_mem_nil, or_false] at hw
      rcases hw with rfl | rfl | rfl | rfl
      · exact va_Nw.use rfl (g6 _ (by simp [pvXdecl]))
      · exact va_Nw.use rfl (g6 _ (by simp [pvXdecl]))
      · exact va_Nw.use rfl (g6 _ (by simp [pvXdecl]))
      · exact va_Nw.use rfl (g5 _ pvXn_cast)
    · intro t hal hsz9 hsm
      refine ⟨k, z', rfl, hrz, hq, fun j q hj => (hP' j q hj).kept (hsm _ (hP' j q hj).lt), Nat.le_trans hSS.1 hsz9, fun q hq1 hq2 => by rw [hsm q (Nat.lt_of_lt_of_le hq1 hSS.1)]; exact hSS.2.1 q hq1 hq2⟩
  have hXok : ∀ (n pc : Nat) (ls : pvL) (st : List pvV) (z : pvM) (g : Nat), pvX pvCl39 (0, fun _ => 0) F Ca Co Ex 1 (pvRt ret Q) (pvTh Q) blk cut (pvKc fun pc ls z => SWm pc ls [] z 0) n pc ls st z g → SWm pc ls st z g := by
    intro n
    induction n with
    | zero => exact fun _ _ _ _ _ h => False.elim h
    | succ n ih =>
      intro pc ls st z' g h
      simp only [pvX] at h
      split at h
      · rename_i mm hcut
        obtain ⟨rfl, rfl, hk⟩ := h
        intro hL hS hz' H locs arr hP' hSS hl
        exact hk (pvOkL_mk mm hL) hS hz' H locs arr hP' hSS (pvLh_mk mm hl)
      · exact pvB_ok M hTb hCo hF hCl (hCa _ _) hWc hL0 hsx (fun id h9 _ => hL0.2.1 id h9) (fun h => absurd h (by decide)) (fun ix h9 => by obtain ⟨a1, a2, a3, a4, a5, a6⟩ := hcp ix h9; exact ⟨hts _ a1, hts _ a2, hts _ a3, hts _ a4, a5, a6⟩) (by rw [hrm.1, hrm.2]; exact ⟨Nat.le_refl _, Nat.le_refl _⟩) hD' (fun _ _ _ _ _ h => ih _ _ _ _ _ h) hRt hTx hNw _ _ _ _ _ _ (hblk pc) h
  have hclo : pvClo F Ca Co Ex ret blk cut Q (fun pc ls z => SWm pc ls [] z 0) := by
    intro n pc ls z' h hL hS hz' H locs arr hP' hSS hl
    exact pvB_ok M hTb hCo hF hCl (hCa _ _) hWc hL0 hsx (fun id h9 _ => hL0.2.1 id h9) (fun h => absurd h (by decide)) (fun ix h9 => by obtain ⟨a1, a2, a3, a4, a5, a6⟩ := hcp ix h9; exact ⟨hts _ a1, hts _ a2, hts _ a3, hts _ a4, a5, a6⟩) (by rw [hrm.1, hrm.2]; exact ⟨Nat.le_refl _, Nat.le_refl _⟩) hD' (fun _ _ _ _ _ h => hXok n _ _ _ _ _ h) hRt hTx hNw _ _ _ _ _ _ (hblk pc) (h hL hz') hL hS hz' H locs arr hP' hSS hl
  obtain ⟨hcs, hgo⟩ := H0 Q _ hclo as z hC hOk hz
  rw [lg_entry_eq]
  exact hgo (pvEn_ok _ hOk) (fun v hv => absurd hv List.not_mem_nil) hz s.heap [] _ hP va_S.rf (pvLh_en hcs)

