/-! contracts over the machine: helpers -/
def pvEx0 : pvEx := fun _ => none
/-- an instruction that makes no exception and copies no row -/
def pvFrB (Ex : pvEx) : Instr → Bool
  | .new _ => false
  | .invokestatic ix => !(Ex ix == some 100) && !(Ex ix == some 101)
  | _ => true
theorem pvHp_ex {lim : Nat} {sc : Nat × (Nat → Int)} {F : pvF} {Ex : pvEx} {i : Instr} (h : pvFrB Ex i = true) (st : List pvV) (z : pvM) : pvHp lim sc F Ex i st z = pvHp lim sc F pvEx0 i st z := by
  cases i <;> first | rfl | skip
  case invokestatic ix =>
    simp only [pvFrB, Bool.and_eq_true, Bool.not_eq_true', beq_eq_false_iff_ne] at h
    simp only [pvHp, if_neg h.1, if_neg h.2, pvEx0]
    rfl
set_option maxHeartbeats 4000000 in
theorem pvB_ex {lim : Nat} {sc : Nat × (Nat → Int)} {F : pvF} {Ca : pvCa} {Co : pvCo} {Ex : pvEx} {Gm : Nat} {J : pvJ} {Rt : Option pvV → pvM → Nat → Prop} {Th : Nat → Nat → pvM → Nat → Prop} (cs : List (Instr × Nat)) (h : cs.all (fun q => pvFrB Ex q.1) = true) :
    ∀ pc ls st z g, pvB lim sc F Ca Co Ex Gm J Rt Th cs pc ls st z g = pvB lim sc F Ca Co pvEx0 Gm J Rt Th cs pc ls st z g := by
  induction cs with
  | nil => exact fun _ _ _ _ _ => rfl
  | cons q t ih =>
    obtain ⟨i, n⟩ := q
    simp only [List.all_cons, Bool.and_eq_true] at h
    have ih' := ih h.2
    have hh := pvHp_ex (lim := lim) (sc := sc) (F := F) h.1
    have h1 := h.1
    intro pc ls st z g
    cases i <;> first | (simp only [pvB, ih', hh]; done) | exact absurd h1 Bool.false_ne_true
theorem pvX_ex {lim : Nat} {sc : Nat × (Nat → Int)} {F : pvF} {Ca : pvCa} {Co : pvCo} {Ex : pvEx} {Gm : Nat} {Rt : Option pvV → pvM → Nat → Prop} {Th : Nat → Nat → pvM → Nat → Prop} {blk : Nat → List (Instr × Nat)} {cut : Nat → Option (List Bool)} {K : Nat → pvL → pvM → Nat → Prop} (hb : ∀ pc, (blk pc).all (fun q => pvFrB Ex q.1) = true) (n : Nat) :
    pvX lim sc F Ca Co Ex Gm Rt Th blk cut K n = pvX lim sc F Ca Co pvEx0 Gm Rt Th blk cut K n := by
  induction n with
  | zero => rfl
  | succ n ih =>
    funext pc ls st z g
    simp only [pvX]
    split
    · rfl
    · rw [pvB_ex _ (hb pc), ih]
theorem pvOkM_ex {F : pvF} {Ca : pvCa} {Co : pvCo} {Ex : pvEx} {ret : Option FieldType} {blk : Nat → List (Instr × Nat)} {cut : Nat → Option (List Bool)} {nL : Nat} {C : pvC} (h : pvOkM F Ca Co Ex ret blk cut nL C) (hb : ∀ pc, (blk pc).all (fun q => pvFrB Ex q.1) = true) : pvOkM F Ca Co pvEx0 ret blk cut nL C := by
  intro Q SW hc as z hC hS hz
  refine h Q SW (fun n pc ls z h9 => hc n pc ls z (fun h1 h2 => ?_)) as z hC hS hz
  have h3 := h9 h1 h2
  simp only [pvSt1] at h3 ⊢
  rw [← pvB_ex _ (hb pc), ← pvX_ex hb]
  exact h3
/-- one call's premises -/
def pvCe (l : Launch) (R : Room) (own : String) (Tb : List Jvm.Cond) (lim ix n : Nat) (b : Bool) (ci co : Nat) (C : pvC) : Prop :=
  ∃ (y : MethodName) (bytes : ByteArray) (maxL : Nat) (ret : Option FieldType) (rm : Room),
    rm.cells = 1 ∧ rm.slots = 6 ∧ rm.frames + 1 ≤ R.frames ∧ 8 + (maxL + 11) + rm.locals ≤ R.locals ∧ Cond.initialized y.cls ∈ Tb ∧ (y.cls ≠ "java/lang/invoke/MethodHandle" ∧ y.cls ≠ "java/lang/invoke/VarHandle") ∧
    ((b = true ∧ Cond.methodLink own ix y ∈ Tb ∧ Cond.static y ∈ Tb ∧ (parseMethodDescriptor y.desc).map (fun d => d.parameters.length) = some n ∧
        ((co = 0 ∧ Cond.code y bytes maxL ret ∈ Tb ∧ pvMet l y (Cond.code y bytes maxL ret :: Tb) rm C) ∨
         (co = 1 ∧ lim = 61 ∧ ∃ hh : List (Nat × Nat × Nat × Nat), Cond.codeWith y bytes maxL ret hh ∈ Tb ∧ pvMetW l y (Cond.codeWith y bytes maxL ret hh :: Tb) rm C))) ∨
     (b = false ∧ co = 0 ∧ Cond.methodLink own ix y ∈ Tb ∧ Cond.code y bytes maxL ret ∈ Tb ∧ pvMet l y (Cond.code y bytes maxL ret :: Tb) rm C ∧ Cond.instanceMethod y ∈ Tb ∧ Cond.selects y.cls y y ∈ Tb ∧ (∃ k, n = k + 1 ∧ (parseMethodDescriptor y.desc).map (fun d => d.parameters.length) = some k) ∧ ∃ (T : u_T) (N : Nat), vwCl[ci]? = some (y.cls, T, N)) ∨
     (co = 0 ∧ (own, ix, y) ∈ pvXnest ∧ Cond.code y bytes maxL ret ∈ Tb ∧ pvMetN l y (Cond.code y bytes maxL ret :: Tb) rm C ∧
        ((b = true ∧ Cond.static y ∈ Tb ∧ (parseMethodDescriptor y.desc).map (fun d => d.parameters.length) = some n) ∨
         (b = false ∧ Cond.instanceMethod y ∈ Tb ∧ Cond.selects y.cls y y ∈ Tb ∧ (∃ k, n = k + 1 ∧ (parseMethodDescriptor y.desc).map (fun d => d.parameters.length) = some k) ∧ ∃ (T : u_T) (N : Nat), vwCl[ci]? = some (y.cls, T, N)))))
theorem pvCaOk_i {l : Launch} {R : Room} {own : String} {Tb : List Jvm.Cond} {lim : Nat} {Ca : pvCa} (h : ∀ ix n b ci co C, Ca ix = some (n, b, ci, co, C) → pvCe l R own Tb lim ix n b ci co C) : pvCaOk l R own Tb lim Ca := h
def pvPn (y : MethodName) : Option Nat := (parseMethodDescriptor y.desc).map (fun d => d.parameters.length)
def pvRo (rm R : Room) (maxL : Nat) : Bool := (rm.cells == 1 && rm.slots == 6) && (Nat.ble (rm.frames + 1) R.frames && Nat.ble (8 + (maxL + 11) + rm.locals) R.locals)
theorem pvRo_s {rm R : Room} {maxL : Nat} (h : pvRo rm R maxL = true) : rm.cells = 1 ∧ rm.slots = 6 ∧ rm.frames + 1 ≤ R.frames ∧ 8 + (maxL + 11) + rm.locals ≤ R.locals := by
  simp only [pvRo, Bool.and_eq_true, beq_iff_eq] at h
  exact ⟨h.1.1, h.1.2, Nat.le_of_ble_eq_true h.2.1, Nat.le_of_ble_eq_true h.2.2⟩
def pvNh (y : MethodName) : Bool := y.cls != "java/lang/invoke/MethodHandle" && y.cls != "java/lang/invoke/VarHandle"
theorem pvNh_s {y : MethodName} (h : pvNh y = true) : y.cls ≠ "java/lang/invoke/MethodHandle" ∧ y.cls ≠ "java/lang/invoke/VarHandle" := by
  simpa only [pvNh, Bool.and_eq_true, bne_iff_ne] using h
theorem pvCe_S {l : Launch} {R rm : Room} {own : String} {lim ix n ci maxL : Nat} {C : pvC} {y : MethodName} {bytes : ByteArray} {ret : Option FieldType} (met : pvMet l y (Cond.code y bytes maxL ret :: pvTb) rm C) (hr : pvRo rm R maxL = true) (hi : Cond.initialized y.cls ∈ pvTb) (hy : pvNh y = true)
    (hl : Cond.methodLink own ix y ∈ pvTb) (hs : Cond.static y ∈ pvTb) (hp : pvPn y = some n) (hc : Cond.code y bytes maxL ret ∈ pvTb) : pvCe l R own pvTb lim ix n true ci 0 C := by
  obtain ⟨r1, r2, r3, r4⟩ := pvRo_s hr
  exact ⟨y, bytes, maxL, ret, rm, r1, r2, r3, r4, hi, pvNh_s hy, Or.inl ⟨rfl, hl, hs, hp, Or.inl ⟨rfl, hc, met⟩⟩⟩
theorem pvCe_V {l : Launch} {R rm : Room} {own : String} {lim ix k ci maxL N : Nat} {C : pvC} {y : MethodName} {bytes : ByteArray} {ret : Option FieldType} {T : u_T} (met : pvMet l y (Cond.code y bytes maxL ret :: pvTb) rm C) (hr : pvRo rm R maxL = true) (hi : Cond.initialized y.cls ∈ pvTb) (hy : pvNh y = true)
    (hl : Cond.methodLink own ix y ∈ pvTb) (hin : Cond.instanceMethod y ∈ pvTb) (hsel : Cond.selects y.cls y y ∈ pvTb) (hp : pvPn y = some k) (hcl : vwCl[ci]? = some (y.cls, T, N)) (hc : Cond.code y bytes maxL ret ∈ pvTb) : pvCe l R own pvTb lim ix (k + 1) false ci 0 C := by
  obtain ⟨r1, r2, r3, r4⟩ := pvRo_s hr
  exact ⟨y, bytes, maxL, ret, rm, r1, r2, r3, r4, hi, pvNh_s hy, Or.inr (Or.inl ⟨rfl, rfl, hl, hc, met, hin, hsel, ⟨k, rfl, hp⟩, T, N, hcl⟩)⟩
theorem pvCe_NS {l : Launch} {R rm : Room} {own : String} {lim ix n ci maxL : Nat} {C : pvC} {y : MethodName} {bytes : ByteArray} {ret : Option FieldType} (met : pvMetN l y (Cond.code y bytes maxL ret :: pvTb) rm C) (hr : pvRo rm R maxL = true) (hi : Cond.initialized y.cls ∈ pvTb) (hy : pvNh y = true)
    (hl : (own, ix, y) ∈ pvXnest) (hs : Cond.static y ∈ pvTb) (hp : pvPn y = some n) (hc : Cond.code y bytes maxL ret ∈ pvTb) : pvCe l R own pvTb lim ix n true ci 0 C := by
  obtain ⟨r1, r2, r3, r4⟩ := pvRo_s hr
  exact ⟨y, bytes, maxL, ret, rm, r1, r2, r3, r4, hi, pvNh_s hy, Or.inr (Or.inr ⟨rfl, hl, hc, met, Or.inl ⟨rfl, hs, hp⟩⟩)⟩
theorem pvCe_NV {l : Launch} {R rm : Room} {own : String} {lim ix k ci maxL N : Nat} {C : pvC} {y : MethodName} {bytes : ByteArray} {ret : Option FieldType} {T : u_T} (met : pvMetN l y (Cond.code y bytes maxL ret :: pvTb) rm C) (hr : pvRo rm R maxL = true) (hi : Cond.initialized y.cls ∈ pvTb) (hy : pvNh y = true)
    (hl : (own, ix, y) ∈ pvXnest) (hin : Cond.instanceMethod y ∈ pvTb) (hsel : Cond.selects y.cls y y ∈ pvTb) (hp : pvPn y = some k) (hcl : vwCl[ci]? = some (y.cls, T, N)) (hc : Cond.code y bytes maxL ret ∈ pvTb) : pvCe l R own pvTb lim ix (k + 1) false ci 0 C := by
  obtain ⟨r1, r2, r3, r4⟩ := pvRo_s hr
  exact ⟨y, bytes, maxL, ret, rm, r1, r2, r3, r4, hi, pvNh_s hy, Or.inr (Or.inr ⟨rfl, hl, hc, met, Or.inr ⟨rfl, hin, hsel, ⟨k, rfl, hp⟩, T, N, hcl⟩⟩)⟩
theorem pvCe_W {l : Launch} {R rm : Room} {own : String} {ix n ci maxL : Nat} {C : pvC} {y : MethodName} {bytes : ByteArray} {ret : Option FieldType} {hh : List (Nat × Nat × Nat × Nat)} (met : pvMetW l y (Cond.codeWith y bytes maxL ret hh :: pvTb) rm C) (hr : pvRo rm R maxL = true) (hi : Cond.initialized y.cls ∈ pvTb) (hy : pvNh y = true)
    (hl : Cond.methodLink own ix y ∈ pvTb) (hs : Cond.static y ∈ pvTb) (hp : pvPn y = some n) (hc : Cond.codeWith y bytes maxL ret hh ∈ pvTb) : pvCe l R own pvTb 61 ix n true ci 1 C := by
  obtain ⟨r1, r2, r3, r4⟩ := pvRo_s hr
  exact ⟨y, bytes, maxL, ret, rm, r1, r2, r3, r4, hi, pvNh_s hy, Or.inl ⟨rfl, hl, hs, hp, Or.inr ⟨rfl, rfl, hh, hc, met⟩⟩⟩
