/-! texts: what is held of a String, worlds of the JDK's methods of texts, their calls -/
def sbQ (A : Nat → Prop) (a b n : Nat) (f : Nat → Int32) (U : State) (H : Heap) : Prop :=
  va_O "java/lang/String" a A U H ∧ va_OF "java/lang/String" "coder" "B" (.int 0) a A U H ∧ va_OF "java/lang/String" "value" "[B" (.ref b) a A U H ∧ va_T .byte b n (fun j => .int (f j)) A U H
theorem sbQ.moved {A : Nat → Prop} {a b n : Nat} {f : Nat → Int32} {u U : State} {H : Heap} (hv : u.vm.Alike U.vm) (h : sbQ A a b n f u H) : sbQ A a b n f U H := ⟨h.1.moved hv, h.2.1.moved hv, h.2.2.1.moved hv, h.2.2.2.moved hv⟩
theorem sbQ.kept {A : Nat → Prop} {a b n : Nat} {f : Nat → Int32} {U : State} {H H1 : Heap} (h : sbQ A a b n f U H) (hq : ∀ a : Nat, a < H.size → ¬ A a → H1[a]? = H[a]?) : sbQ A a b n f U H1 := ⟨h.1.kept hq, h.2.1.kept hq, h.2.2.1.kept hq, h.2.2.2.kept hq⟩
theorem sbQ.narrow {A B : Nat → Prop} {a b n : Nat} {f : Nat → Int32} {U : State} {H : Heap} (h : sbQ A a b n f U H) (hAB : ∀ q, B q → A q) : sbQ B a b n f U H := ⟨h.1.narrow hAB, h.2.1.narrow hAB, h.2.2.1.narrow hAB, h.2.2.2.narrow hAB⟩
def sbZ (A : Nat → Prop) (U : State) (H : Heap) : Prop :=
  va_Z "java/lang/String" "COMPACT_STRINGS" "Z" (.int 1) A U H ∧ va_Zq "jdk/internal/util/Preconditions" "SIOOBE_FORMATTER" "Ljava/util/function/BiFunction;" A U H ∧
  ∃ dg : Nat, va_Z "java/lang/Integer" "DigitOnes" "[B" (.ref dg) A U H ∧ va_T .byte dg 100 (fun j => .int (Int32.ofNat (48 + j % 10))) A U H
theorem sbZ.moved {A : Nat → Prop} {u U : State} {H : Heap} (hv : u.vm.Alike U.vm) (h : sbZ A u H) : sbZ A U H := by
  obtain ⟨h1, h2, dg, h3, h4⟩ := h
  exact ⟨h1.moved hv, h2.moved hv, dg, h3.moved hv, h4.moved hv⟩
theorem sbZ.kept {A : Nat → Prop} {U : State} {H H1 : Heap} (h : sbZ A U H) (hq : ∀ a : Nat, a < H.size → ¬ A a → H1[a]? = H[a]?) : sbZ A U H1 := by
  obtain ⟨h1, h2, dg, h3, h4⟩ := h
  exact ⟨h1.kept hq, h2.kept hq, dg, h3.kept hq, h4.kept hq⟩
theorem sbZ.narrow {A B : Nat → Prop} {U : State} {H : Heap} (h : sbZ A U H) (hAB : ∀ q, B q → A q) : sbZ B U H := by
  obtain ⟨h1, h2, dg, h3, h4⟩ := h
  exact ⟨h1.narrow hAB, h2.narrow hAB, dg, h3.narrow hAB, h4.narrow hAB⟩
theorem pvTx.sbZ {A : Nat → Prop} {U : State} (h : pvTx A U) : sbZ A U U.heap := h.2
/-- Strings that a method reads: address, bytes' address, length, bytes -/
abbrev sbSs := List (Nat × Nat × Nat × (Nat → Int32))
/-- rows of bytes that a method reads -/
abbrev sbBs := List (Nat × Nat × (Nat → Int32))
/-- the world at a text method's start -/
def sbW (D : va_G) (cI cJ cD : ClassId) (A : Nat → Prop) (ws : va_W) (ss : sbSs) (bs : sbBs) (U : State) : Prop :=
  va_K D vwCl (pvTy cI cJ cD) U ∧ (∀ q, U.heap.size ≤ q → A q) ∧ sbZ A U U.heap ∧ (∀ q ∈ ss, sbQ A q.1 q.2.1 q.2.2.1 q.2.2.2 U U.heap) ∧ (∀ q ∈ bs, va_T .byte q.1 q.2.1 (fun j => .int (q.2.2 j)) A U U.heap) ∧ va_P D vwCl ws U.heap ∧ va_D A ws
def sbPost (D : va_G) (A : Nat → Prop) (post : Option Value → va_W → Prop) : Array Value → State → Outcome → State → Prop := fun _ st o t =>
  (∃ (v : Option Value) (ws : va_W), o = .returned v ∧ post v ws ∧ va_P D vwCl ws t.heap ∧ va_D A ws) ∧ va_F A st t
theorem sbW.blind {D : va_G} {cI cJ cD : ClassId} {A : Nat → Prop} {ws : va_W} {ss : sbSs} {bs : sbBs} {av : List Value} : FrameBlind (va_Pc av (sbW D cI cJ cD A ws ss bs)) := by
  intro a U g mk ⟨h0, h1, h2, h3, h4, h5, h6, h7⟩
  have hv : U.vm.Alike (U.calling g mk a).vm := Vm.Alike.refl U.vm
  exact ⟨h0, va_K.moved hv h1, h2, h3.moved hv, fun q hq => (h4 q hq).moved hv, fun q hq => (h5 q hq).moved hv, h6, h7⟩
/-- the world at a call's start -/
theorem sbW.at {D : va_G} {cI cJ cD : ClassId} {A A1 : Nat → Prop} {ws : va_W} {ss : sbSs} {bs : sbBs} {s : State} {H : Heap} {locs : List Loc} (hK : va_K D vwCl (pvTy cI cJ cD) s) (hZ : sbZ A s s.heap) (hS : va_S A s.heap H locs) (h1 : ∀ q, A1 q → A q) (hA : ∀ q, H.size ≤ q → A1 q)
    (hQ : ∀ q ∈ ss, sbQ A1 q.1 q.2.1 q.2.2.1 q.2.2.2 s H) (hT : ∀ q ∈ bs, va_T .byte q.1 q.2.1 (fun j => .int (q.2.2 j)) A1 s H) (hP : va_P D vwCl ws H) (hD : va_D A1 ws) {U : State} (hU : U.heap = H) (hW : s.WarmedH U.vm) : sbW D cI cJ cD A1 ws ss bs U := by
  subst hU
  have hv := hW.alike
  exact ⟨va_K.moved hv hK, hA, ((hZ.kept hS.2.1).moved hv).narrow h1, fun q hq => (hQ q hq).moved hv, fun q hq => (hT q hq).moved hv, hP, hD⟩
theorem sbQ_ {A : Nat → Prop} {s : State} {H : Heap} {locs : List Loc} (hS : va_S A s.heap H locs) {ss : sbSs} (h : ∀ q ∈ ss, sbQ A q.1 q.2.1 q.2.2.1 q.2.2.2 s s.heap) : ∀ q ∈ ss, sbQ A q.1 q.2.1 q.2.2.1 q.2.2.2 s H := fun q hq => (h q hq).kept hS.2.1
theorem sbT_ {A : Nat → Prop} {s : State} {H : Heap} {locs : List Loc} (hS : va_S A s.heap H locs) {bs : sbBs} (h : ∀ q ∈ bs, va_T .byte q.1 q.2.1 (fun j => .int (q.2.2 j)) A s s.heap) : ∀ q ∈ bs, va_T .byte q.1 q.2.1 (fun j => .int (q.2.2 j)) A s H := fun q hq => (h q hq).kept hS.2.1
/-- how a run goes on behind a call -/
theorem sb_go {p : Program} {l : Launch} {e : Env} {R : Room} {s : State} {m : MethodId} {args : Array Value} {below : List Frame} {meth : Method} {c : Code} {H : Heap} {locs : List Loc} {cells slots mc ms pc : Nat} {ls : Array Slot} {st0 rest : List Value} {Q : State → Prop} {D : va_G} {A A1 : Nat → Prop} {post : Option Value → va_W → Prop} {a : Array Value}
    (hr : va_Run p l e R s m args below meth c H locs cells slots mc ms (F0 m pc ls st0) rest (sbPost D A1 post a) A1) (hS : va_S A s.heap H locs) (h1 : ∀ q, A1 q → A q)
    (kk : ∀ (v : Option Value) (ws : va_W) (H1 : Heap) (locs1 : List Loc), post v ws → va_P D vwCl ws H1 → va_D A1 ws → va_S A s.heap H1 locs1 → H.size ≤ H1.size → (∀ q : Nat, q < H.size → ¬ A1 q → H1[q]? = H[q]?) → W p l e R s m args below meth c H1 locs1 (cells + mc) (slots + ms) Q (F0 m (pc + 3) ls (v.toList ++ rest))) : W p l e R s m args below meth c H locs cells slots Q (F0 m pc ls st0) := by
  intro T hT X
  obtain ⟨v, st₀, t, T', L, h0, X', hL, e1, e2, ⟨⟨v', ws, hv, hp, hP, hD⟩, hz, hk⟩, st⟩ := hr T hT X
  cases hv
  rw [h0] at hz hk
  obtain ⟨t2, a1, b1⟩ := kk v ws T'.heap (locs ++ L) hp (by rw [e1]; exact hP) hD
    ⟨Nat.le_trans hS.1 (by rw [e1]; exact hz), fun q g1 g2 => by rw [e1, hk q (Nat.lt_of_lt_of_le g1 hS.1) (fun z => g2 (h1 q z))]; exact hS.2.1 q g1 g2, fun q hq => by
      rcases List.mem_append.mp hq with h | h
      · exact hS.2.2 q h
      · exact h1 _ (hL q h)⟩ (by rw [e1]; exact hz) (fun q g1 g2 => by rw [e1]; exact hk q g1 g2) T' rfl X'
  exact ⟨t2, st t2 a1, b1⟩
/-- the receiver of a call on a String -/
theorem sbQ.recv {A : Nat → Prop} {a b n : Nat} {f : Nat → Int32} {s : State} {H : Heap} (h : sbQ A a b n f s H) : ∃ cell : Cell, H[a]? = some cell ∧ cell.vm.isStatics = false ∧ s.vm.findClass "java/lang/String" = some cell.cls := by
  obtain ⟨cell, h1, h2, h3, -⟩ := h.1
  exact ⟨cell, h1, h2, h3⟩
/-- a StringBuilder and its bytes -/
abbrev sbB (h d : Nat) (k : Int32) : Nat × va_E := (h, .inr (10, [.ref d, .int 0, .int 0, .int k]))
abbrev sbY (cD : ClassId) (d : Nat) (f : Nat → Int32) : Nat × va_E := (d, .inl (cD, 16, .inl f))
theorem sb_si {ws : va_W} {i : Nat} {x y : Nat × va_E} (h : ws[i]? = some y) : (ws.set i x)[i]? = some x := by
  obtain ⟨h1, -⟩ := List.getElem?_eq_some_iff.mp h
  simp [List.getElem?_set, h1]
theorem sb_sj {ws : va_W} {i j : Nat} {x y : Nat × va_E} (hn : i ≠ j) (h : ws[j]? = some y) : (ws.set i x)[j]? = some y := by
  rw [List.getElem?_set, if_neg hn]
  exact h
theorem sb_ap {ws w1 : va_W} {i : Nat} {x : Nat × va_E} (h : ws[i]? = some x) : (ws ++ w1)[i]? = some x := by
  obtain ⟨h1, -⟩ := List.getElem?_eq_some_iff.mp h
  rw [List.getElem?_append_left h1]
  exact h
theorem sb_ne {ws : va_W} {i j : Nat} {a b : Nat} {x : Nat × List Value} {y : ClassId × vp_A} (hi : ws[i]? = some (a, .inr x)) (hj : ws[j]? = some (b, .inl y)) : i ≠ j := by
  rintro rfl
  rw [hi] at hj
  cases hj
/-- new cells beside a world -/
theorem sb_join {A A1 : Nat → Prop} {D : va_G} {ws w1 : va_W} {H H1 : Heap} (hP : va_P D vwCl ws H) (hD : va_D A ws) (h1 : ∀ q, A1 q → A q) (h2 : ∀ q, A1 q → H.size ≤ q) (hk : ∀ q : Nat, q < H.size → ¬ A1 q → H1[q]? = H[q]?) (hP1 : va_P D vwCl w1 H1) (hD1 : va_D A1 w1) : va_P D vwCl (ws ++ w1) H1 ∧ va_D A (ws ++ w1) := by
  refine ⟨va_P.app (fun k q hq => ?_) hP1, va_D.app hD (hD1.weaken (fun k q _ h => h1 q.1 h)) (fun i j x y hx hy hxy => ?_)⟩
  · have hl := (hP k q hq).lt
    exact (hP k q hq).kept (hk q.1 hl (fun h => by have := h2 _ h; omega))
  · have hl := (hP i x hx).lt
    have := h2 _ (hD1.2 j y hy)
    omega
/-- a row of bytes of a world, read from outside -/
theorem sbT_of {D : va_G} {cI cJ cD : ClassId} {s : State} {ws : va_W} {H : Heap} {j d n : Nat} {f : Nat → Int32} {B : Nat → Prop} (hK : va_K D vwCl (pvTy cI cJ cD) s) (hP : va_P D vwCl ws H) (hj : ws[j]? = some (d, .inl (cD, n, .inl f))) (hn : n < 2 ^ 31) (hB : ¬ B d) : va_T .byte d n (fun q => .int (f q)) B s H := by
  have h1 : H[d]? = some (vp_cell cD (n, .inl f)) := hP j _ hj
  have h2 := (hK.2 2 (cD, .byte) rfl).1 n (fun q => .int (f q))
  refine ⟨_, h1, h2, (by intro h; cases h), ?_, ?_, fun q hq => ?_, hB⟩
  · show n ≤ (arrV cD n (fun q => .int (f q))).slots.size
    rw [arrV_size]
    exact Nat.le_refl _
  · show (arrV cD n (fun q => .int (f q))).slots.size.toInt32 = _
    rw [arrV_size]
  · show (arrV cD n (fun q => .int (f q))).slots[q]? = _
    simp [arrV, hq]
theorem sb_selP {s : State} {args : Array Value} {C : String} {y y0 : MethodName} (hy : y.cls ≠ "java/lang/invoke/MethodHandle" ∧ y.cls ≠ "java/lang/invoke/VarHandle") (he : y0.cls = y.cls) (hsel : (Cond.selects C y0 y0).before args s = true) (hpriv : (Cond.privateMethod y).before args s = true) (hinst : (Cond.instanceMethod y).before args s = true) : (Cond.selects C y y).before args s = true := by
  obtain ⟨mk, methM, hnamed, hmethM, -, -⟩ := Cond.instanceMethod_spec hinst
  have hfound : s.methodFound? y.cls y.name y.desc = some mk := State.methodFound?_of_named hnamed hy
  obtain ⟨c2, r2, m2, q1, q2, q3, q4, kP, hkP, hkPi⟩ := Cond.selects_spec hsel
  have e1 := findClass_of_methodNamed hnamed
  have e2 := findClass_of_methodNamed q3
  rw [he] at e2
  have hcls : m2.cls = mk.cls := Option.some.inj (e2.symm.trans e1)
  have hs : selectMethod {} s.vm c2 mk = .method mk := selectMethod_private hmethM (Cond.privateMethod_at hpriv mk methM hnamed hmethM)
  rw [hcls] at hkP
  simp only [Cond.before, Cond.holds, Cond.value, q1, hfound, hnamed, hs, hkP]
  simp; exact hkPi
theorem sbGood {pre : List Jvm.Cond} {c : Jvm.Cond} (h : ∀ w ∈ pre, w ∈ pvTb) (hc : c ∈ pvTb) : GoodIn pvTb (pre ++ (c :: pvTb)) := by
  intro w hw
  rcases List.mem_append.mp hw with hw | hw
  · exact ⟨h w hw, good_of_word (pvTb_g _ (h w hw))⟩
  · exact pvGood_c pvTb_g hc w hw
/-- a new row of bytes (see pv_newa of the objects' part) -/
theorem pv_newa {p : Program} {l : Launch} {e : Env} {R : Room} {s : State} {m : MethodId} {args : Array Value} {below : List Frame} {meth : Method} {c : Code} {H H0 : Heap} {locs : List Loc} {cells slots : Nat} {Q : State → Prop} {cc : ByteArray} {D : va_G} {cl : List vw_C} {tys : List (ClassId × FieldType)} {ws : va_W} {A : Nat → Prop} {pc : Nat} {ls : Array Slot} {rest : List Value}
    (hexec : p.tables.exec = Jvm.exec) (hb : c.code = cc) {atype : ArrayType} (harr : (Cond.arrayClass (newarray.typeOf atype)).before args s = true) {ty : FieldType} (hty : newarray.typeOf atype = ty) (hK : va_K D cl tys s) {j : Nat} {kA : ClassId} (hj : tys[j]? = some (kA, ty)) (hP : va_P D cl ws H) (hD : va_D A ws) (hS : va_S A H0 H locs) (hA : ∀ q, H0.size ≤ q → A q)
    {n : Int32} {N' : Nat} {a0 : vp_A} (ha : ∀ cA : ClassId, vp_cell cA a0 = arrV cA N' (fun _ => defaultValue ty)) (hn : ¬ n < 0) (hN : n.toNatClampNeg = N') (hbytes : N' * componentBytes ty ≤ 536870912) (hcells : cells + 1 ≤ R.cells) (hslots : slots + N' ≤ R.slots) (hdg : decode cc pc = .ok (.newarray atype, 2))
    (kk : ∀ (q : Nat) (H1 : Heap), va_P D cl (ws ++ [(q, .inl (kA, a0))]) H1 → va_D A (ws ++ [(q, .inl (kA, a0))]) → va_S A H0 H1 locs →
      W p l e R s m args below meth c H1 locs (cells + 1) (slots + N') Q (F0 m (pc + 2) ls (.ref q :: rest))) : W p l e R s m args below meth c H locs cells slots Q (F0 m pc ls (.int n :: rest)) := by
  refine va_newa hexec hb harr hty hK hP hD hS hA ha hn hN hbytes hcells hslots hdg fun q cA H1 hK1 hP1 hD1 hS1 => ?_
  have h1 := (hK1.2 tys.length (cA, ty) (by simp)).2
  have h2 := (hK.2 j (kA, ty) hj).2
  have e1 : cA = kA := by
    subst hty
    cases atype <;> exact Option.some.inj (h1.symm.trans h2)
  subst e1
  exact kk q H1 hP1 hD1 hS1
/-! numbers -/
theorem sb_sr0 (x : Int32) : x >>> ((0 : Int32) &&& 31) = x := by
  show x >>> (0 : Int32) = x
  simp
theorem sb_sl0 (x : Int32) : x <<< ((0 : Int32) &&& 31) = x := by
  show x <<< (0 : Int32) = x
  simp
theorem sb_add (a b : Nat) : Int32.ofNat a + Int32.ofNat b = Int32.ofNat (a + b) := (Int32.ofNat_add a b).symm
theorem sb_cn {a : Nat} (h : a < 2 ^ 31) : (Int32.ofNat a).toNatClampNeg = a := Int32.toNatClampNeg_ofNat_of_lt h
theorem sb_ng {a : Nat} (h : a < 2 ^ 31) : ¬ Int32.ofNat a < 0 := Int32.ofNat_not_neg h
theorem sb_in {a n : Nat} (h : a < n) (hn : n < 2 ^ 31) : vp_in (Int32.ofNat a) n := by
  intro q
  rcases q with q | q
  · exact sb_ng (by omega) q
  · rw [sb_cn (by omega)] at q
    omega
theorem sb_lt {a b : Nat} (h : a < b) (hb : b < 2 ^ 31) : Int32.ofNat a < Int32.ofNat b := by
  rw [Int32.lt_iff_toInt_lt, Int32.toInt_ofNat_of_lt (by omega), Int32.toInt_ofNat_of_lt hb]
  omega
theorem sb_sub {a b : Nat} (h : a ≤ b) (hb : b < 2 ^ 31) : Int32.ofNat b - Int32.ofNat a = Int32.ofNat (b - a) := by
  apply Int32.toInt_inj.mp
  rw [Int32.toInt_sub, Int32.toInt_ofNat_of_lt hb, Int32.toInt_ofNat_of_lt (by omega), Int32.toInt_ofNat_of_lt (by omega)]
  simp only [Int.bmod]
  omega
theorem sb_ch : ∀ k : Nat, k < 128 → (Int32.ofNat k &&& 255) = Int32.ofNat k ∧ ((Int32.ofNat k).toUInt32 % 65536).toInt32 = Int32.ofNat k ∧ narrow .char (.int (Int32.ofNat k)) = .int (Int32.ofNat k) ∧ fits .byte (.int (Int32.ofNat k)) = true ∧ vp_nar .byte (Int32.ofNat k) = Int32.ofNat k := by decide +kernel
theorem sb_c16 : ∀ k : Nat, k < 17 → Int32.ofNat k - 16 ≤ 0 := by decide +kernel
theorem sx_dec : ∀ c : Nat, c < 16 → Int32.ofNat (c + 1) + Int32.ofInt (-1) = Int32.ofNat c := by decide +kernel
theorem sb_n3 : ∀ y : Nat, y < 4 → ¬ Int32.ofNat y < 0 ∧ ¬ -(Int32.ofNat y) ≤ -10 ∧ (0 : Int32) ≤ Int32.ofNat y ∧ (-100 : Int32) < -(Int32.ofNat y) ∧ (-9 : Int32) ≤ -(Int32.ofNat y) ∧ -(-(Int32.ofNat y)) = Int32.ofNat y := by decide +kernel
theorem sb_n16 : ∀ n : Nat, n < 16 → ¬ Int32.ofNat n = 16 ∧ Int32.ofNat n < 16 ∧ (0 : Int32) ≤ Int32.ofNat n ∧ Int32.ofNat n - 0 = Int32.ofNat n := by decide +kernel
theorem sb_set2 {ws w : va_W} {i : Nat} {x a b : Nat × va_E} (h : ws[i]? = some x) : ((ws ++ w).set i a).set i b = ws.set i b ++ w := by
  obtain ⟨h1, -⟩ := List.getElem?_eq_some_iff.mp h
  rw [List.set_set, List.set_append_left _ _ h1]
theorem sb_set3 {ws w : va_W} {i : Nat} {x a b : Nat × va_E} (h : ws[i]? = some x) : (ws.set i a ++ w).set i b = ws.set i b ++ w := by
  obtain ⟨h1, -⟩ := List.getElem?_eq_some_iff.mp h
  rw [List.set_append_left _ _ (by rw [List.length_set]; exact h1), List.set_set]
theorem sb_set4 {ws w : va_W} {x y : Nat × va_E} : (ws ++ [x]).set ws.length y ++ w = ws ++ (y :: w) := by
  rw [List.set_append_right _ _ (Nat.le_refl _), Nat.sub_self, List.append_assoc]
  rfl
theorem sb_last {ws : va_W} {x : Nat × va_E} : (ws ++ [x])[ws.length]? = some x := by simp
