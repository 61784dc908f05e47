/-! making objects: helpers -/
theorem pv_newa {p : Program} {l : Launch} {e : Env} {R : Room} {s : State} {m : MethodId} {args : Array Value} {below : List Frame} {meth : Method} {c : Code} {H H0 : Heap} {locs : List Loc} {cells slots : Nat} {Q : State → Prop} {cc : ByteArray} {D : va_G} {cl : List vw_C} {tys : List (ClassId × FieldType)} {ws : va_W} {A : Nat → Prop} {pc : Nat} {ls : Array Slot} {rest : List Value}
    (hexec : p.tables.exec = Jvm.exec) (hb : c.code = cc) {atype : ArrayType} (harr : (Cond.arrayClass (newarray.typeOf atype)).before args s = true) {ty : FieldType} (hty : newarray.typeOf atype = ty) (hK : va_K D cl tys s) {j : Nat} {kA : ClassId} (hj : tys[j]? = some (kA, ty)) (hP : va_P D cl ws H) (hD : va_D A ws) (hS : va_S A H0 H locs) (hA : ∀ q, H0.size ≤ q → A q)
    {n : Int32} {N' : Nat} {a0 : vp_A} (ha : ∀ cA : ClassId, vp_cell cA a0 = arrV cA N' (fun _ => defaultValue ty)) (hn : ¬ n < 0) (hN : n.toNatClampNeg = N') (hbytes : N' * componentBytes ty ≤ 536870912) (hcells : cells + 1 ≤ R.cells) (hslots : slots + N' ≤ R.slots) (hdg : decode cc pc = .ok (.newarray atype, 2))
    (kk : ∀ (q : Nat) (H1 : Heap), va_P D cl (ws ++ [(q, .inl (kA, a0))]) H1 → va_D A (ws ++ [(q, .inl (kA, a0))]) → va_S A H0 H1 locs →
      W p l e R s m args below meth c H1 locs (cells + 1) (slots + N') Q (F0 m (pc + 2) ls (.ref q :: rest))) : W p l e R s m args below meth c H locs cells slots Q (F0 m pc ls (.int n :: rest)) := by
  refine va_newa hexec hb harr hty hK hP hD hS hA ha hn hN hbytes hcells hslots hdg fun q cA H1 hK1 hP1 hD1 hS1 => ?_
  have h1 := (hK1.2 tys.length (cA, ty) (by simp)).2
  have h2 := (hK.2 j (kA, ty) hj).2
  have e1 : cA = kA := by
    subst hty
    cases atype <;> exact Option.some.inj (h1.symm.trans h2)
  subst e1
  exact kk q H1 hP1 hD1 hS1
def pvXnC : List (String × Nat × MethodName) := [("EventClockWorkbench", 21, ⟨"EventClockWorkbench$Powerset", "<init>", "()V"⟩), ("EventClockWorkbench", 34, ⟨"EventClockWorkbench$GuardText", "<init>", "()V"⟩), ("EventClockWorkbench", 41, ⟨"EventClockWorkbench$TimedWord", "<init>", "()V"⟩), ("EventClockWorkbench", 48, ⟨"EventClockWorkbench$Runs", "<init>", "()V"⟩), ("EventClockWorkbench", 55, ⟨"EventClockWorkbench$Search", "<init>", "()V"⟩), ("EventClockWorkbench", 62, ⟨"EventClockWorkbench$WordCounter", "<init>", "()V"⟩), ("EventClockWorkbench", 69, ⟨"EventClockWorkbench$History", "<init>", "()V"⟩)]
