/-! calls, returns, throws; a block; a method -/
def pvSz (H H' : Heap) : Prop := H'.size = H.size ∧ ∀ (a : Nat) (c : Cell), H[a]? = some c → ∃ c' : Cell, H'[a]? = some c' ∧ c'.slots.size = c.slots.size
theorem pvSz_map {H H' : Heap} (h : pvSz H H') : H'.toList.map (fun c => c.slots.size) = H.toList.map (fun c => c.slots.size) := by
  apply List.ext_getElem
  · simp [h.1]
  · intro i h1 h2
    simp only [List.getElem_map, Array.getElem_toList]
    have hi : i < H.size := by simpa using h2
    obtain ⟨c', e1, e2⟩ := h.2 i H[i] (Array.getElem?_eq_getElem hi)
    obtain ⟨h3, e3⟩ := Array.getElem?_eq_some_iff.mp e1
    rw [← e2, ← e3]
theorem pv_tight {p : Program} {l : Launch} {e : Env} {R : Room} {s : State} {m : MethodId} {args : Array Value} {below : List Frame} {meth : Method} {c : Code} {T T' : State} {locs locs' : List Loc} {cells slots k n : Nat}
    (X : Stand p l e R s m args below meth c T locs cells slots) (X' : Stand p l e R s m args below meth c T' locs' k n) (h : pvSz T.heap T'.heap) : Stand p l e R s m args below meth c T' locs' cells slots := by
  obtain ⟨a1, a2, a3, a4, a5, a6⟩ := X.same
  obtain ⟨b1, b2, b3, b4, b5, b6⟩ := X'.same
  refine { X' with same := ⟨b1, b2, ?_, b4, ?_, b6⟩ }
  · show T'.heap.size ≤ _
    rw [h.1]
    exact a3
  · have e1 : ((T'.heap.toList.drop s.heap.size).map (fun c => c.slots.size)) = ((T.heap.toList.drop s.heap.size).map (fun c => c.slots.size)) := by
      rw [List.map_drop, List.map_drop, pvSz_map h]
    show ((T'.heap.toList.drop s.heap.size).map (fun c => c.slots.size)).sum ≤ slots
    rw [e1]
    exact a5
def pvXn : Nat → String
  | 0 => "java/lang/IndexOutOfBoundsException"
  | 1 => "java/lang/IllegalArgumentException"
  | 2 => "java/lang/IllegalStateException"
  | _ => "java/util/NoSuchElementException"
def pvXcast : List String := ["java/lang/IndexOutOfBoundsException", "java/lang/IllegalArgumentException", "java/lang/IllegalStateException", "java/util/NoSuchElementException"]
def pvXouts : List String := ["java/lang/IndexOutOfBoundsException"]
def pvXdecl : List MethodName := [⟨"java/lang/RuntimeException", "<init>", "()V"⟩, ⟨"java/lang/Exception", "<init>", "()V"⟩, ⟨"java/lang/Throwable", "<init>", "()V"⟩]
/-- private methods that another class of the nest calls -/
def pvXnest : List (String × Nat × MethodName) := [("EventClockWorkbench$TimedWord", 30, ⟨"EventClockWorkbench", "isIndex", "(II)Z"⟩), ("EventClockWorkbench$Automaton", 15, ⟨"EventClockWorkbench", "isIndex", "(II)Z"⟩), ("EventClockWorkbench$Automaton", 78, ⟨"EventClockWorkbench", "hasState", "(II)Z"⟩), ("EventClockWorkbench$Powerset", 68, ⟨"EventClockWorkbench", "isIndex", "(II)Z"⟩), ("EventClockWorkbench$WordCounter", 49, ⟨"EventClockWorkbench", "isIndex", "(II)Z"⟩), ("EventClockWorkbench$GuardText", 28, ⟨"EventClockWorkbench", "isIndex", "(II)Z"⟩), ("EventClockWorkbench$GuardText", 46, ⟨"EventClockWorkbench", "isBetween", "(III)Z"⟩), ("EventClockWorkbench$Search", 78, ⟨"EventClockWorkbench", "isIndex", "(II)Z"⟩)]
theorem pvScOk.move {sx : pvSx} {A : Nat → Prop} {s U : State} (h : pvScOk sx A s) (hk : ∀ a : Nat, a < s.heap.size → ¬ A a → U.heap[a]? = s.heap[a]?) (hz : s.heap.size ≤ U.heap.size) (hv : s.vm.Alike U.vm) : pvScOk sx A U := by
  obtain ⟨h1, h2, h3, h4⟩ := h
  exact ⟨h1, (h2.moved hv).kept (hk _ h3 h4), Nat.lt_of_lt_of_le h3 hz, h4⟩
theorem pvScOk.blind {sx : pvSx} {A : Nat → Prop} {U : State} (g : JFrame) (mk : MethodId) (a : Array Value) (h : pvScOk sx A U) : pvScOk sx A (U.calling g mk a) := by
  obtain ⟨h1, h2, h3, h4⟩ := h
  exact ⟨h1, h2.moved (Vm.Alike.refl U.vm), h3, h4⟩
/-- texts of the law: constants, texts, lengths, bytes -/
def txI (i : Nat) : Nat := ([68, 70, 30, 32, 34, 43, 49, 51, 53, 55, 57, 59] : List Nat).getD i 0
def txS (i : Nat) : String := (["", "&", "a", "b", "c", "?", "!", "<", "<=", "=", ">=", ">"] : List String).getD i ""
def txL : List Nat := [0, 1, 1, 1, 1, 1, 1, 1, 2, 1, 2, 1]
def txB : List (List Int32) := [[], [38], [97], [98], [99], [63], [33], [60], [60, 61], [61], [62, 61], [62]]
/-- texts and statics of the law and of the JDK, at their places -/
def pvTx (A : Nat → Prop) (U : State) : Prop :=
  (∃ adK adV : Nat → Nat, vk_S 12 txL txB adK adV A U U.heap ∧ ∀ i : Nat, i < 12 → vk_R "EventClockWorkbenchLaw" (txI i) (txS i) (adK i) U) ∧
  va_Z "java/lang/String" "COMPACT_STRINGS" "Z" (.int 1) A U U.heap ∧ va_Zq "jdk/internal/util/Preconditions" "SIOOBE_FORMATTER" "Ljava/util/function/BiFunction;" A U U.heap ∧
  ∃ dg : Nat, va_Z "java/lang/Integer" "DigitOnes" "[B" (.ref dg) A U U.heap ∧ va_T .byte dg 100 (fun j => .int (Int32.ofNat (48 + j % 10))) A U U.heap
theorem pvTx.move {A : Nat → Prop} {s U : State} (h : pvTx A s) (hk : ∀ a : Nat, a < s.heap.size → ¬ A a → U.heap[a]? = s.heap[a]?) (hW : s.WarmedH U.vm) : pvTx A U := by
  obtain ⟨⟨adK, adV, h1, h2⟩, h3, h4, dg, h5, h6⟩ := h
  have hv : s.vm.Alike U.vm := hW.alike
  exact ⟨⟨adK, adV, (h1.moved hv).kept hk, fun i hi => (h2 i hi).warm hW⟩, (h3.moved hv).kept hk, (h4.moved hv).kept hk, dg, (h5.moved hv).kept hk, (h6.moved hv).kept hk⟩
theorem pvTx.blind {A : Nat → Prop} {U : State} (g : JFrame) (mk : MethodId) (a : Array Value) (h : pvTx A U) : pvTx A (U.calling g mk a) := by
  obtain ⟨⟨adK, adV, h1, h2⟩, h3, h4, dg, h5, h6⟩ := h
  have hv : U.vm.Alike (U.calling g mk a).vm := Vm.Alike.refl U.vm
  exact ⟨⟨adK, adV, h1.moved hv, fun i hi => (h2 i hi).same rfl⟩, h3.moved hv, h4.moved hv, dg, h5.moved hv, h6.moved hv⟩
/-- what stays of a world while methods run: classes, the place of Throwable's statics, words of the tables that are no method's own -/
def pvWc (D : va_G) (cI cJ cD : ClassId) (sx : pvSx) (A : Nat → Prop) (U : State) : Prop :=
  va_K D vwCl (pvTy cI cJ cD) U ∧ (∀ q, U.heap.size ≤ q → A q) ∧ vx_Zq Bundle.tN "UNASSIGNED_STACK" Bundle.steD A U U.heap ∧ vx_Zq Bundle.tN "SUPPRESSED_SENTINEL" Bundle.listD A U U.heap ∧
  (∀ x ∈ pvXcast, va_Nw (.castable x x) U) ∧ (∀ y ∈ pvXdecl, va_Nw (.declares y) U) ∧ (∀ x ∈ pvXcast, ∀ y ∈ pvXouts, x ≠ y → va_Nc x y U) ∧ (∀ q ∈ pvXnest, va_Nw (.methodLinkNest q.1 q.2.1 q.2.2 "EventClockWorkbench") U) ∧ pvScOk sx A U ∧ pvTx A U
theorem pvWc_move {D : va_G} {cI cJ cD : ClassId} {sx : pvSx} {A : Nat → Prop} {s U : State} {H : Heap} {locs : List Loc} (h : pvWc D cI cJ cD sx A s) (hS : va_S A s.heap H locs) (hU : U.heap = H) (hW : s.WarmedH U.vm) : pvWc D cI cJ cD sx A U := by
  obtain ⟨h1, h2, h3, h4, h5, h6, h7, h8, h9, h10⟩ := h
  subst hU
  have hk : ∀ a : Nat, a < s.heap.size → ¬ A a → U.heap[a]? = s.heap[a]? := fun a p q => hS.2.1 a p q
  exact ⟨va_K.moved hW.alike h1, fun q hq => h2 q (Nat.le_trans hS.1 hq), (h3.moved hW.alike).kept hk, (h4.moved hW.alike).kept hk, fun x hx => va_Nw.warmC hW (h5 x hx), fun y hy => va_Nw.warmD hW (h6 y hy), fun x hx y hy e => (h7 x hx y hy e).moved hW.alike, fun q hq => va_Nw.warmM hW (h8 q hq), h9.move hk hS.1 hW.alike, h10.move hk hW⟩
theorem pvWc_blind {D : va_G} {cI cJ cD : ClassId} {sx : pvSx} {A : Nat → Prop} {U : State} (g : JFrame) (mk : MethodId) (a : Array Value) (h : pvWc D cI cJ cD sx A U) : pvWc D cI cJ cD sx A (U.calling g mk a) := by
  obtain ⟨h1, h2, h3, h4, h5, h6, h7, h8, h9, h10⟩ := h
  have hv : U.vm.Alike (U.calling g mk a).vm := Vm.Alike.refl U.vm
  exact ⟨va_K.moved hv h1, h2, h3.moved hv, h4.moved hv, fun x hx => va_Nw.same rfl rfl (h5 x hx), fun y hy => va_Nw.same rfl rfl (h6 y hy), fun x hx y hy e => (h7 x hx y hy e).moved hv, fun q hq => va_Nw.same rfl rfl (h8 q hq), h9.blind g mk a, h10.blind g mk a⟩
/-- a method's world at its start -/
def pvPw (ad : Nat → Nat) (D : va_G) (cI cJ cD : ClassId) (sx : pvSx) (L : List Nat) (A : Nat → Prop) (z : pvM) (U : State) : Prop := pvWc D cI cJ cD sx A U ∧ va_P D vwCl (pvWs ad cI cJ cD L z) U.heap ∧ va_D A (pvWs ad cI cJ cD L z)
def pvQc (ad : Nat → Nat) (D : va_G) (cI cJ cD : ClassId) (L : List Nat) (A : Nat → Prop) (co : Nat) (Q : pvO → pvM → Prop) : Array Value → State → Outcome → State → Prop := fun _ st o t =>
  ∃ (v : Option pvV) (z' : pvM), o = .returned (v.map (pvRe ad)) ∧ (∀ x, v = some x → pvOk x) ∧ pvRng z' ∧ Q (.inl v) z' ∧ va_P D vwCl (pvWs ad cI cJ cD L z') t.heap ∧ va_F A st t ∧ (co = 0 → pvSz st.heap t.heap)
def pvXc (ad : Nat → Nat) (D : va_G) (cI cJ cD : ClassId) (L : List Nat) (A : Nat → Prop) (Q : pvO → pvM → Prop) : String → State → State → Prop := fun E st t =>
  ∃ (k : Nat) (z' : pvM), E = pvXn k ∧ pvRng z' ∧ Q (.inr k) z' ∧ va_P D vwCl (pvWs ad cI cJ cD L z') t.heap ∧ va_F A st t
/-- a method that returns or throws, as its contract says -/
def pvMet (l : Launch) (y : MethodName) (ws : List Jvm.Cond) (rm : Room) (C : pvC) : Prop :=
  ∀ (ad : Nat → Nat) (D : va_G) (cI cJ cD : ClassId) (sx : pvSx) (L : List Nat) (A : Nat → Prop) (as : List pvV) (z : pvM) (Q : pvO → pvM → Prop), pvWl L → ad 60 = sx.1 → pvOkS as → pvRng z → C as z Q →
    vx_Met l y ws rm (va_Pc (as.map (pvRe ad)) (pvPw ad D cI cJ cD sx L A z)) (pvQc ad D cI cJ cD L A 0 Q) (pvXc ad D cI cJ cD L A Q) 1 6 A
/-- a method that never throws -/
def pvMetN (l : Launch) (y : MethodName) (ws : List Jvm.Cond) (rm : Room) (C : pvC) : Prop :=
  ∀ (ad : Nat → Nat) (D : va_G) (cI cJ cD : ClassId) (sx : pvSx) (L : List Nat) (A : Nat → Prop) (as : List pvV) (z : pvM) (Q : pvO → pvM → Prop), pvWl L → ad 60 = sx.1 → pvOkS as → pvRng z → C as z Q →
    Met l y ws rm (va_Pc (as.map (pvRe ad)) (pvPw ad D cI cJ cD sx L A z)) (pvQc ad D cI cJ cD L A 0 Q) 1 6 A
theorem pvMetN_of {l : Launch} {y : MethodName} {ws : List Jvm.Cond} {rm : Room} {C : pvC} (h : pvMet l y ws rm C) (hC : ∀ as z Q, C as z Q → C as z (fun o z' => Q o z' ∧ ∃ v, o = .inl v)) : pvMetN l y ws rm C := by
  intro ad D cI cJ cD sx L A as z Q h1 h2 h3 h4 h5
  refine MetFree.mono (h ad D cI cJ cD sx L A as z _ h1 h2 h3 h4 (hC as z Q h5)) (fun _ _ h => h) (fun _ _ _ _ _ h => h) (fun _ _ _ _ _ h => ?_)
  rcases h with ⟨⟨v, z', c1, c2, c3, c4, c5⟩, c6⟩ | ⟨q, rfl, E, ce, L, ⟨k, z', c1, c2, ⟨c3, c4⟩, c5⟩, c6⟩
  · exact ⟨⟨v, z', c1, c2, c3, c4.1, c5⟩, c6⟩
  · obtain ⟨v, hv⟩ := c4
    cases hv
/-- the cells of a world and the script's own -/
def pvLm (L : List Nat) : Nat → Prop := fun id => id ∈ L ∨ id = 60
/-- a method of the law: it returns; co: how many cells may be new; what it says may speak of the world's cells and the script -/
def pvMetW (l : Launch) (y : MethodName) (ws : List Jvm.Cond) (rm : Room) (co : Nat) (C : (Nat → Prop) → Nat × (Nat → Int) → pvC) : Prop :=
  ∀ (ad : Nat → Nat) (D : va_G) (cI cJ cD : ClassId) (sx : pvSx) (L : List Nat) (A : Nat → Prop) (as : List pvV) (z : pvM) (Q : pvO → pvM → Prop), pvWl L → ad 60 = sx.1 → pvOkS as → pvRng z → C (pvLm L) (pvScx sx) as z Q →
    Met l y ws rm (va_Pc (as.map (pvRe ad)) (pvPw ad D cI cJ cD sx L A z)) (pvQc ad D cI cJ cD L A co Q) (max 1 co) (6 * max 1 co) A
def pvCaOk (l : Launch) (R : Room) (own : String) (Tb : List Jvm.Cond) (lm : Nat → Prop) (sc : Nat × (Nat → Int)) (Ca : pvCa) : Prop := ∀ ix n b ci co C, Ca ix = some (n, b, ci, co, C) →
  ∃ (y : MethodName) (bytes : ByteArray) (maxL : Nat) (ret : Option FieldType) (rm : Room),
    rm.frames + 1 ≤ R.frames ∧ 8 + (maxL + 11) + rm.locals ≤ R.locals ∧ Cond.initialized y.cls ∈ Tb ∧ (y.cls ≠ "java/lang/invoke/MethodHandle" ∧ y.cls ≠ "java/lang/invoke/VarHandle") ∧
    ((b = true ∧ Cond.methodLink own ix y ∈ Tb ∧ Cond.static y ∈ Tb ∧ (parseMethodDescriptor y.desc).map (fun d => d.parameters.length) = some n ∧
        ((co = 0 ∧ rm.cells = 1 ∧ rm.slots = 6 ∧ Cond.code y bytes maxL ret ∈ Tb ∧ pvMet l y (Cond.code y bytes maxL ret :: Tb) rm C) ∨
         (rm.cells = max 1 co ∧ rm.slots = 6 * max 1 co ∧ ∃ Cx : (Nat → Prop) → Nat × (Nat → Int) → pvC, C = Cx lm sc ∧
           ((∃ hh : List (Nat × Nat × Nat × Nat), Cond.codeWith y bytes maxL ret hh ∈ Tb ∧ pvMetW l y (Cond.codeWith y bytes maxL ret hh :: Tb) rm co Cx) ∨
            (Cond.code y bytes maxL ret ∈ Tb ∧ pvMetW l y (Cond.code y bytes maxL ret :: Tb) rm co Cx))))) ∨
     (b = false ∧ co = 0 ∧ rm.cells = 1 ∧ rm.slots = 6 ∧ Cond.methodLink own ix y ∈ Tb ∧ Cond.code y bytes maxL ret ∈ Tb ∧ pvMet l y (Cond.code y bytes maxL ret :: Tb) rm C ∧ Cond.instanceMethod y ∈ Tb ∧ Cond.selects y.cls y y ∈ Tb ∧ (∃ k, n = k + 1 ∧ (parseMethodDescriptor y.desc).map (fun d => d.parameters.length) = some k) ∧ ∃ (T : u_T) (N : Nat), vwCl[ci]? = some (y.cls, T, N)) ∨
     (co = 0 ∧ rm.cells = 1 ∧ rm.slots = 6 ∧ (own, ix, y) ∈ pvXnest ∧ Cond.code y bytes maxL ret ∈ Tb ∧ pvMetN l y (Cond.code y bytes maxL ret :: Tb) rm C ∧
        ((b = true ∧ Cond.static y ∈ Tb ∧ (parseMethodDescriptor y.desc).map (fun d => d.parameters.length) = some n) ∨
         (b = false ∧ Cond.instanceMethod y ∈ Tb ∧ Cond.selects y.cls y y ∈ Tb ∧ (∃ k, n = k + 1 ∧ (parseMethodDescriptor y.desc).map (fun d => d.parameters.length) = some k) ∧ ∃ (T : u_T) (N : Nat), vwCl[ci]? = some (y.cls, T, N)))))
theorem pvPop_eq {n : Nat} {st acc as rest : List pvV} (h : pvPop n st acc = some (as, rest)) : ∃ l : List pvV, l.length = n ∧ as = l ++ acc ∧ st = l.reverse ++ rest := by
  induction n generalizing st acc with
  | zero =>
    simp only [pvPop, Option.some.injEq, Prod.mk.injEq] at h
    exact ⟨[], rfl, by simp [h.1], by simp [h.2]⟩
  | succ n ih =>
    cases st with
    | nil => cases h
    | cons v t =>
      obtain ⟨l, h1, h2, h3⟩ := ih h
      exact ⟨l ++ [v], by simp [h1], by simp [h2], by simp [h3]⟩
