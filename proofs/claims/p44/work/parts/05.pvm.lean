/-! ===== a small pure machine: values, memory, a walk of a block's instructions as a proposition ===== -/
/-- a pure value: an int, a long, a reference (the cell's number), a double, a float -/
abbrev pvV : Type := Int ⊕ (Int ⊕ (Nat ⊕ (UInt64 ⊕ UInt32)))
abbrev vI (a : Int) : pvV := Sum.inl a
abbrev vL (a : Int) : pvV := Sum.inr (Sum.inl a)
abbrev vR (a : Nat) : pvV := Sum.inr (Sum.inr (Sum.inl a))
abbrev vD (a : UInt64) : pvV := Sum.inr (Sum.inr (Sum.inr (Sum.inl a)))
abbrev vF (a : UInt32) : pvV := Sum.inr (Sum.inr (Sum.inr (Sum.inr a)))
def pvCat : pvV → Nat
  | .inl _ => 1
  | .inr (.inl _) => 2
  | .inr (.inr (.inl _)) => 1
  | .inr (.inr (.inr (.inl _))) => 2
  | .inr (.inr (.inr (.inr _))) => 1
def pvRe (ad : Nat → Nat) : pvV → Value
  | .inl a => .int (Int32.ofInt a)
  | .inr (.inl a) => .long (Int64.ofInt a)
  | .inr (.inr (.inl a)) => .ref (ad a)
  | .inr (.inr (.inr (.inl a))) => .double a
  | .inr (.inr (.inr (.inr a))) => .float a
abbrev pvR (a : Int) : Prop := -2147483648 ≤ a ∧ a ≤ 2147483647
abbrev pvRL (a : Int) : Prop := -9223372036854775808 ≤ a ∧ a ≤ 9223372036854775807
def pvOk : pvV → Prop
  | .inl a => pvR a
  | _ => True
/-- the memory: ints, longs, doubles, by the cell's number and the place in it -/
abbrev pvM : Type := (Nat → Nat → Int) × (Nat → Nat → Int) × (Nat → Nat → UInt64)
def pvUp {α : Type} (f : Nat → Nat → α) (i k : Nat) (v : α) : Nat → Nat → α := fun a b => if a = i ∧ b = k then v else f a b
def pvSt (f : Nat → Nat → Int) (i : Nat) (g : Nat → Int) : Nat → Nat → Int := fun a => if a = i then g else f a
/-- locals: what is known of each -/
abbrev pvL : Type := List (Option pvV)
def pvLd : pvL → Nat → Option pvV
  | [], _ => none
  | x :: _, 0 => x
  | _ :: t, k + 1 => pvLd t k
def pvClr : Option pvV → Option pvV
  | none => none
  | some v => if pvCat v = 2 then none else some v
def pvS1 : pvL → Nat → pvV → pvL
  | [], _, _ => []
  | _ :: t, 0, v => some v :: t
  | x :: t, 1, v => pvClr x :: pvS1 t 0 v
  | x :: t, k + 2, v => x :: pvS1 t (k + 1) v
def pvS2 : pvL → Nat → pvV → pvL
  | [], _, _ => []
  | [x], _, _ => [x]
  | _ :: _ :: t, 0, v => some v :: none :: t
  | x :: y :: t, 1, v => pvClr x :: pvS2 (y :: t) 0 v
  | x :: t, k + 2, v => x :: pvS2 t (k + 1) v
def pvMk : List Bool → pvL → pvL
  | b :: bs, x :: t => (if b then x else none) :: pvMk bs t
  | _, l => l.map fun _ => none
def pvPop : Nat → List pvV → List pvV → Option (List pvV × List pvV)
  | 0, st, acc => some (acc, st)
  | _ + 1, [], _ => none
  | n + 1, v :: st, acc => pvPop n st (v :: acc)
def pvCs : List pvV → Nat
  | [] => 0
  | v :: t => pvCat v + pvCs t
def pvPush : Option pvV → List pvV → List pvV
  | none, st => st
  | some v, st => v :: st
def pvAI (id : Nat) : Nat := match pvSh id with
  | .inr (0, n) => n
  | _ => 0
def pvAL (id : Nat) : Nat := match pvSh id with
  | .inr (1, n) => n
  | _ => 0
def pvAD (id : Nat) : Nat := match pvSh id with
  | .inr (2, n) => n
  | _ => 0
def pvAn (id : Nat) : Nat := match pvSh id with
  | .inr (_, n) => n
  | _ => 0
/-- bits of two ints -/
def pvAnd (a b : Int) : Int := (Int32.ofInt a &&& Int32.ofInt b).toInt
def pvOr (a b : Int) : Int := (Int32.ofInt a ||| Int32.ofInt b).toInt
def pvXor (a b : Int) : Int := (Int32.ofInt a ^^^ Int32.ofInt b).toInt
def pvUshr (a b : Int) : Int := ((Int32.ofInt a).toUInt32 >>> ((Int32.ofInt b).toUInt32 &&& Int32.toUInt32 31)).toInt32.toInt
def pvShl (a b : Int) : Int := (Int32.ofInt a <<< (Int32.ofInt b &&& 31)).toInt
def pvShr (a b : Int) : Int := (Int32.ofInt a >>> (Int32.ofInt b &&& 31)).toInt
/-- what comes out of a call: a value or none, or an exception by its number -/
abbrev pvO : Type := Option pvV ⊕ Nat
abbrev pvC : Type := List pvV → pvM → (pvO → pvM → Prop) → Prop
def pvKk (kv : Option pvV → pvM → Prop) (kx : Nat → pvM → Prop) : pvO → pvM → Prop
  | .inl v, z => kv v z
  | .inr k, z => kx k z
/-- what a class's own pool and a method's calls mean: fields by pool index (kind of class, place, kind of field); constants; calls (values popped, static, kind of the receiver, cells that may come, the contract); exceptions made -/
abbrev pvF : Type := Nat → Option (Nat × Nat × Nat)
abbrev pvCa : Type := Nat → Option (Nat × Bool × Nat × Nat × pvC)
abbrev pvCo : Type := Nat → Option pvV
abbrev pvEx : Type := Nat → Option Nat
abbrev pvJ : Type := Nat → pvL → List pvV → pvM → Nat → Prop
def pvTgt (pc : Nat) (off : Int) : Nat := pc + off.toNat - (-off).toNat
def pvGo (J : pvJ) (pc : Nat) (off : Int) (ls : pvL) (st : List pvV) (z : pvM) (g : Nat) : Prop := (-off).toNat ≤ pc + off.toNat ∧ J (pvTgt pc off) ls st z g
def pvSw (J : pvJ) (pc : Nat) (x : Int) (ls : pvL) (st : List pvV) (z : pvM) (g : Nat) : List Int → Int → Prop
  | [], _ => True
  | o :: t, lo => (x = lo → pvGo J pc o ls st z g) ∧ pvSw J pc x ls st z g t (lo + 1)
def pvCond : Jvm.ClassFile.Cond → Int → Int → Prop
  | .eq, a, b => a = b
  | .ne, a, b => a ≠ b
  | .lt, a, b => a < b
  | .ge, a, b => b ≤ a
  | .gt, a, b => b < a
  | .le, a, b => a ≤ b
section
variable (lim : Nat → Prop) (sc : Nat × (Nat → Int)) (F : pvF) (Ca : pvCa) (Co : pvCo) (Ex : pvEx) (Gm : Nat) (J : pvJ) (Rt : Option pvV → pvM → Nat → Prop) (Th : Nat → Nat → pvM → Nat → Prop)
def pvBr (c : Prop) (pc : Nat) (off : Int) (ls : pvL) (st : List pvV) (z : pvM) (g : Nat) (kf : Prop) : Prop := (c → pvGo J pc off ls st z g) ∧ (¬ c → kf)
def pvLoad (ls : pvL) (k : Nat) (kk : pvV → Prop) : Prop := match pvLd ls k with
  | some v => kk v
  | none => False
def pvRecv (lim : Nat → Prop) (ci : Nat) : List pvV → Prop
  | .inr (.inr (.inl id)) :: _ => pvSh id = .inl ci ∧ lim id
  | _ => False
def pvCall (e : Option (Nat × Bool × Nat × Nat × pvC)) (sta : Bool) (st : List pvV) (z : pvM) (g : Nat) (kx : Nat → pvM → Nat → Prop) (kk : List pvV → pvM → Nat → Prop) : Prop := match e with
  | none => False
  | some (n, b, ci, co, C) => b = sta ∧ g + co < Gm ∧ match pvPop n st [] with
    | none => False
    | some (as, rest) => pvCs rest ≤ 8 ∧ (sta = false → pvRecv lim ci as) ∧ C as z (pvKk (fun v z' => kk (pvPush v rest) z' (g + co)) (fun k z' => kx k z' g))
end
/-- what one instruction does to locals and stack alone: what it asks, the locals, the stack -/
def pvA (Co : pvCo) (i : Instr) (ls : pvL) (st : List pvV) : Option (Prop × pvL × List pvV) :=
  match i with
  | .iconst k => some (pvR k, ls, vI k :: st)
  | .bipush k => some (-128 ≤ k ∧ k ≤ 127, ls, vI k :: st)
  | .sipush k => some (-32768 ≤ k ∧ k ≤ 32767, ls, vI k :: st)
  | .lconst k => some (True, ls, vL ((k : Nat) : Int) :: st)
  | .ldc ix => match Co ix with
    | some (.inl a) => some (pvR a, ls, vI a :: st)
    | _ => none
  | .ldc_w ix => match Co ix with
    | some (.inl a) => some (pvR a, ls, vI a :: st)
    | _ => none
  | .ldc2_w ix => match Co ix with
    | some (.inr (.inl a)) => some (True, ls, vL a :: st)
    | some (.inr (.inr (.inr (.inl a)))) => some (True, ls, vD a :: st)
    | _ => none
  | .fconst k => if k = 0 then some (True, ls, vF FP.fconst0 :: st) else none
  | .dconst k => if k = 0 then some (True, ls, vD FP.dconst0 :: st) else none
  | .iload k => match pvLd ls k with
    | some (.inl a) => some (True, ls, vI a :: st)
    | _ => none
  | .iload_n k => match pvLd ls k.val with
    | some (.inl a) => some (True, ls, vI a :: st)
    | _ => none
  | .lload k => match pvLd ls k with
    | some (.inr (.inl a)) => some (True, ls, vL a :: st)
    | _ => none
  | .lload_n k => match pvLd ls k.val with
    | some (.inr (.inl a)) => some (True, ls, vL a :: st)
    | _ => none
  | .aload k => match pvLd ls k with
    | some (.inr (.inr (.inl a))) => some (True, ls, vR a :: st)
    | _ => none
  | .aload_n k => match pvLd ls k.val with
    | some (.inr (.inr (.inl a))) => some (True, ls, vR a :: st)
    | _ => none
  | .dload k => match pvLd ls k with
    | some (.inr (.inr (.inr (.inl a)))) => some (True, ls, vD a :: st)
    | _ => none
  | .dload_n k => match pvLd ls k.val with
    | some (.inr (.inr (.inr (.inl a)))) => some (True, ls, vD a :: st)
    | _ => none
  | .fload k => match pvLd ls k with
    | some (.inr (.inr (.inr (.inr a)))) => some (True, ls, vF a :: st)
    | _ => none
  | .istore k => match st with
    | .inl a :: r => some (k < ls.length, pvS1 ls k (vI a), r)
    | _ => none
  | .istore_n k => match st with
    | .inl a :: r => some (k.val < ls.length, pvS1 ls k.val (vI a), r)
    | _ => none
  | .astore k => match st with
    | .inr (.inr (.inl a)) :: r => some (k < ls.length, pvS1 ls k (vR a), r)
    | _ => none
  | .astore_n k => match st with
    | .inr (.inr (.inl a)) :: r => some (k.val < ls.length, pvS1 ls k.val (vR a), r)
    | _ => none
  | .fstore k => match st with
    | .inr (.inr (.inr (.inr a))) :: r => some (k < ls.length, pvS1 ls k (vF a), r)
    | _ => none
  | .lstore k => match st with
    | .inr (.inl a) :: r => some (k + 1 < ls.length, pvS2 ls k (vL a), r)
    | _ => none
  | .lstore_n k => match st with
    | .inr (.inl a) :: r => some (k.val + 1 < ls.length, pvS2 ls k.val (vL a), r)
    | _ => none
  | .dstore k => match st with
    | .inr (.inr (.inr (.inl a))) :: r => some (k + 1 < ls.length, pvS2 ls k (vD a), r)
    | _ => none
  | .dstore_n k => match st with
    | .inr (.inr (.inr (.inl a))) :: r => some (k.val + 1 < ls.length, pvS2 ls k.val (vD a), r)
    | _ => none
  | .iinc k c => match pvLd ls k with
    | some (.inl a) => some (k < ls.length ∧ pvR (a + c), pvS1 ls k (vI (a + c)), st)
    | _ => none
  | .iadd => match st with
    | .inl b :: .inl a :: r => some (pvR (a + b), ls, vI (a + b) :: r)
    | _ => none
  | .isub => match st with
    | .inl b :: .inl a :: r => some (pvR (a - b), ls, vI (a - b) :: r)
    | _ => none
  | .imul => match st with
    | .inl b :: .inl a :: r => some (pvR (a * b), ls, vI (a * b) :: r)
    | _ => none
  | .ineg => match st with
    | .inl a :: r => some (pvR (-a), ls, vI (-a) :: r)
    | _ => none
  | .idiv => match st with
    | .inl b :: .inl a :: r => some (0 ≤ a ∧ 0 < b, ls, vI (a / b) :: r)
    | _ => none
  | .irem => match st with
    | .inl b :: .inl a :: r => some (0 ≤ a ∧ 0 < b, ls, vI (a % b) :: r)
    | _ => none
  | .iand => match st with
    | .inl b :: .inl a :: r => some (True, ls, vI (pvAnd a b) :: r)
    | _ => none
  | .ior => match st with
    | .inl b :: .inl a :: r => some (True, ls, vI (pvOr a b) :: r)
    | _ => none
  | .ixor => match st with
    | .inl b :: .inl a :: r => some (True, ls, vI (pvXor a b) :: r)
    | _ => none
  | .ishl => match st with
    | .inl b :: .inl a :: r => some (True, ls, vI (pvShl a b) :: r)
    | _ => none
  | .ishr => match st with
    | .inl b :: .inl a :: r => some (True, ls, vI (pvShr a b) :: r)
    | _ => none
  | .iushr => match st with
    | .inl b :: .inl a :: r => some (True, ls, vI (pvUshr a b) :: r)
    | _ => none
  | .ladd => match st with
    | .inr (.inl b) :: .inr (.inl a) :: r => some (True, ls, vL (a + b) :: r)
    | _ => none
  | .lmul => match st with
    | .inr (.inl b) :: .inr (.inl a) :: r => some (True, ls, vL (a * b) :: r)
    | _ => none
  | .lcmp => match st with
    | .inr (.inl b) :: .inr (.inl a) :: r => some (pvRL a ∧ pvRL b, ls, vI (if b < a then 1 else if a = b then 0 else -1) :: r)
    | _ => none
  | .i2l => match st with
    | .inl a :: r => some (True, ls, vL a :: r)
    | _ => none
  | .l2d => match st with
    | .inr (.inl a) :: r => some (True, ls, vD (FP.l2d (Int64.ofInt a)) :: r)
    | _ => none
  | .i2f => match st with
    | .inl a :: r => some (True, ls, vF (FP.i2f (Int32.ofInt a)) :: r)
    | _ => none
  | .ddiv => match st with
    | .inr (.inr (.inr (.inl b))) :: .inr (.inr (.inr (.inl a))) :: r => some (vf_n64 (FP.ddiv a b), ls, vD (FP.ddiv a b) :: r)
    | _ => none
  | .fdiv => match st with
    | .inr (.inr (.inr (.inr b))) :: .inr (.inr (.inr (.inr a))) :: r => some (vf_n32 (FP.fdiv a b), ls, vF (FP.fdiv a b) :: r)
    | _ => none
  | .f2d => match st with
    | .inr (.inr (.inr (.inr a))) :: r => some (vf_n64 (FP.f2d a), ls, vD (FP.f2d a) :: r)
    | _ => none
  | .dcmp op => match st with
    | .inr (.inr (.inr (.inl b))) :: .inr (.inr (.inr (.inl a))) :: r => some (True, ls, vI (Op.cmpValue (FP.dcmp a b) op).toInt :: r)
    | _ => none
  | .fcmp op => match st with
    | .inr (.inr (.inr (.inr b))) :: .inr (.inr (.inr (.inr a))) :: r => some (True, ls, vI (Op.cmpValue (FP.fcmp a b) op).toInt :: r)
    | _ => none
  | .dup => match st with
    | a :: r => if pvCat a = 1 then some (True, ls, a :: a :: r) else none
    | _ => none
  | .dup2 => match st with
    | a :: b :: r => if pvCat a = 1 ∧ pvCat b = 1 then some (True, ls, a :: b :: a :: b :: r) else none
    | _ => none
  | .pop => match st with
    | a :: r => if pvCat a = 1 then some (True, ls, r) else none
    | _ => none
  | _ => none
/-- .. to stack and memory -/
def pvHp (lim : Nat → Prop) (sc : Nat × (Nat → Int)) (F : pvF) (Ex : pvEx) (i : Instr) (st : List pvV) (z : pvM) : Option (Prop × List pvV × pvM) :=
  match i with
  | .getfield ix => match F ix, st with
    | some (ci, k, 2), .inr (.inr (.inl id)) :: r => some (lim id ∧ pvSh id = .inl ci, vR (pvRf id k) :: r, z)
    | some (ci, k, 0), .inr (.inr (.inl id)) :: r => some (lim id ∧ pvSh id = .inl ci, vI (z.1 id k) :: r, z)
    | some (ci, k, 1), .inr (.inr (.inl id)) :: r => some (lim id ∧ pvSh id = .inl ci, vI (z.1 id k) :: r, z)
    | _, _ => none
  | .putfield ix => match F ix, st with
    | some (ci, k, 0), .inl a :: .inr (.inr (.inl id)) :: r => some (lim id ∧ pvSh id = .inl ci, r, (pvUp z.1 id k a, z.2))
    | some (ci, k, 1), .inl a :: .inr (.inr (.inl id)) :: r => some (lim id ∧ pvSh id = .inl ci ∧ (a = 0 ∨ a = 1), r, (pvUp z.1 id k a, z.2))
    | _, _ => none
  | .iaload => match st with
    | .inl a :: .inr (.inr (.inl id)) :: r => if id = 60 then some (lim 60 ∧ 0 ≤ a ∧ a < sc.1, vI (sc.2 a.toNat) :: r, z) else some (lim id ∧ 0 ≤ a ∧ a < pvAI id, vI (z.1 id a.toNat) :: r, z)
    | _ => none
  | .laload => match st with
    | .inl a :: .inr (.inr (.inl id)) :: r => some (lim id ∧ 0 ≤ a ∧ a < pvAL id, vL (z.2.1 id a.toNat) :: r, z)
    | _ => none
  | .iastore => match st with
    | .inl x :: .inl a :: .inr (.inr (.inl id)) :: r => some (lim id ∧ 0 ≤ a ∧ a < pvAI id, r, (pvUp z.1 id a.toNat x, z.2))
    | _ => none
  | .lastore => match st with
    | .inr (.inl x) :: .inl a :: .inr (.inr (.inl id)) :: r => some (lim id ∧ 0 ≤ a ∧ a < pvAL id, r, (z.1, pvUp z.2.1 id a.toNat x, z.2.2))
    | _ => none
  | .arraylength => match st with
    | .inr (.inr (.inl id)) :: r => if id = 60 then some (lim 60, vI sc.1 :: r, z) else some (lim id ∧ (pvAn id ≠ 0 ∨ 64 ≤ id) ∧ (64 ≤ id → (pvAn id : Int) ≤ 2147483647), vI (pvAn id) :: r, z)
    | _ => none
  | .invokestatic ix => if Ex ix = some 100 then match st with
    | .inl n :: .inl dp :: .inr (.inr (.inl b)) :: .inl sp :: .inr (.inr (.inl a)) :: r =>
        some (lim a ∧ lim b ∧ 0 ≤ sp ∧ 0 ≤ dp ∧ 0 ≤ n ∧ sp + n ≤ pvAI a ∧ dp + n ≤ pvAI b ∧ 0 < pvAI a ∧ 0 < pvAI b ∧ pvCs r ≤ 8, r, (pvSt z.1 b (fun k => if dp.toNat ≤ k ∧ k < dp.toNat + n.toNat then z.1 a (sp.toNat + (k - dp.toNat)) else z.1 b k), z.2))
    | _ => none
    else if Ex ix = some 101 then match st with
    | .inl n :: .inl dp :: .inr (.inr (.inl b)) :: .inl sp :: .inr (.inr (.inl a)) :: r =>
        some (lim a ∧ lim b ∧ 0 ≤ sp ∧ 0 ≤ dp ∧ 0 ≤ n ∧ sp + n ≤ pvAL a ∧ dp + n ≤ pvAL b ∧ 0 < pvAL a ∧ 0 < pvAL b ∧ pvCs r ≤ 8, r, (z.1, pvSt z.2.1 b (fun k => if dp.toNat ≤ k ∧ k < dp.toNat + n.toNat then z.2.1 a (sp.toNat + (k - dp.toNat)) else z.2.1 b k), z.2.2))
    | _ => none
    else none
  | _ => none
def pvTs (i : Instr) (st : List pvV) : Option (Prop × Int × List pvV) :=
  match i with
  | .ifCond c off => match st with
    | .inl a :: r => some (pvCond c a 0, off, r)
    | _ => none
  | .if_icmp c off => match st with
    | .inl b :: .inl a :: r => some (pvCond c a b, off, r)
    | _ => none
  | .ifnull off => match st with
    | .inr (.inr (.inl _)) :: r => some (False, off, r)
    | _ => none
  | .ifnonnull off => match st with
    | .inr (.inr (.inl _)) :: r => some (True, off, r)
    | _ => none
  | _ => none
def pvEn : List pvV → Nat → pvL
  | [], n => List.replicate n none
  | v :: t, n => if pvCat v = 2 then some v :: none :: pvEn t (n - 2) else some v :: pvEn t (n - 1)
def pvRv : Option FieldType → Option pvV → Prop
  | some .boolean, some (.inl a) => a = 0 ∨ a = 1
  | some .int, some (.inl _) => True
  | some .long, some (.inr (.inl _)) => True
  | some (.object _), some (.inr (.inr (.inl _))) => True
  | some .double, some (.inr (.inr (.inr (.inl _)))) => True
  | some .float, some (.inr (.inr (.inr (.inr _)))) => True
  | none, none => True
  | _, _ => False
section
variable (lim : Nat → Prop) (sc : Nat × (Nat → Int)) (F : pvF) (Ca : pvCa) (Co : pvCo) (Ex : pvEx) (Gm : Nat) (J : pvJ) (Rt : Option pvV → pvM → Nat → Prop) (Th : Nat → Nat → pvM → Nat → Prop)
/-- a block, walked: what must hold here so that all goes on as J, Rt, Th say -/
def pvB : List (Instr × Nat) → Nat → pvL → List pvV → pvM → Nat → Prop
  | [], pc, ls, st, z, g => J pc ls st z g
  | (i, n) :: cs, pc, ls, st, z, g =>
    match pvA Co i ls st with
    | some (o, ls', st') => o ∧ pvB cs (pc + n) ls' st' z g
    | none => match pvHp lim sc F Ex i st z with
      | some (o, st', z') => o ∧ pvB cs (pc + n) ls st' z' g
      | none => match pvTs i st with
        | some (c, off, st') => (c → pvGo J pc off ls st' z g) ∧ (¬ c → pvB cs (pc + n) ls st' z g)
        | none => match i with
          | .goto off => pvGo J pc off ls st z g
          | .tableswitch d lo hi offs => match st with
            | .inl x :: r => hi = lo + offs.size - 1 ∧ (x < lo ∨ hi < x → pvGo J pc d ls r z g) ∧ pvSw J pc x ls r z g offs.toList lo
            | _ => False
          | .invokevirtual ix => pvCall lim Gm (Ca ix) false st z g (fun k z' g' => Th k pc z' g') (fun st' z' g' => pvB cs (pc + 3) ls st' z' g')
          | .invokestatic ix => pvCall lim Gm (Ca ix) true st z g (fun k z' g' => Th k pc z' g') (fun st' z' g' => pvB cs (pc + 3) ls st' z' g')
          | .ireturn => match st with
            | [.inl a] => Rt (some (vI a)) z g
            | _ => False
          | .lreturn => match st with
            | [.inr (.inl a)] => Rt (some (vL a)) z g
            | _ => False
          | .areturn => match st with
            | [.inr (.inr (.inl a))] => Rt (some (vR a)) z g
            | _ => False
          | .dreturn => match st with
            | [.inr (.inr (.inr (.inl a)))] => Rt (some (vD a)) z g
            | _ => False
          | .freturn => match st with
            | [.inr (.inr (.inr (.inr a)))] => Rt (some (vF a)) z g
            | _ => False
          | .return_ => match st with
            | [] => Rt none z g
            | _ => False
          | .new ix => match Ex ix, cs with
            | some k, (.dup, 1) :: (.invokespecial _, 3) :: (.athrow, 1) :: _ => st = [] ∧ k < 4 ∧ g < Gm ∧ Th k (pc + 7) z g
            | _, _ => False
          | _ => False
/-- from a place on: a cut stops, else its block is walked -/
def pvX (blk : Nat → List (Instr × Nat)) (cut : Nat → Option (List Bool)) (K : pvJ) : Nat → pvJ
  | 0 => fun _ _ _ _ _ => False
  | n + 1 => fun pc ls st z g => match cut pc with
    | some mm => K pc (pvMk mm ls) st z g
    | none => pvB lim sc F Ca Co Ex Gm (pvX blk cut K n) Rt Th (blk pc) pc ls st z g
end
/-- all known locals, all of the stack, all of the memory: ints of 32 bits -/
def pvOkL (ls : pvL) : Prop := ∀ k v, pvLd ls k = some v → pvOk v
def pvOkS (st : List pvV) : Prop := ∀ v ∈ st, pvOk v
def pvRng (z : pvM) : Prop := ∀ id k, pvR (z.1 id k)
/-- what a method of the plain kind owes, of its own code alone: SW stands for 'the machine goes on well from here' -/
def pvRt (ret : Option FieldType) (Q : pvO → pvM → Prop) : Option pvV → pvM → Nat → Prop := fun v z g => g = 0 ∧ pvRv ret v ∧ Q (.inl v) z
def pvTh (Q : pvO → pvM → Prop) : Nat → Nat → pvM → Nat → Prop := fun k _ z g => g = 0 ∧ Q (.inr k) z
def pvKc (SW : Nat → pvL → pvM → Prop) : pvJ := fun pc ls st z g => st = [] ∧ g = 0 ∧ SW pc ls z
/-- the cells that the class may touch -/
abbrev pvCl39 : Nat → Prop := fun id => id < 39
abbrev pvSt1 (F : pvF) (Ca : pvCa) (Co : pvCo) (Ex : pvEx) (ret : Option FieldType) (blk : Nat → List (Instr × Nat)) (cut : Nat → Option (List Bool)) (Q : pvO → pvM → Prop) (SW : Nat → pvL → pvM → Prop) (n pc : Nat) (ls : pvL) (z : pvM) : Prop :=
  pvB pvCl39 (0, fun _ => 0) F Ca Co Ex 1 (pvX pvCl39 (0, fun _ => 0) F Ca Co Ex 1 (pvRt ret Q) (pvTh Q) blk cut (pvKc SW) n) (pvRt ret Q) (pvTh Q) (blk pc) pc ls [] z 0
def pvClo (F : pvF) (Ca : pvCa) (Co : pvCo) (Ex : pvEx) (ret : Option FieldType) (blk : Nat → List (Instr × Nat)) (cut : Nat → Option (List Bool)) (Q : pvO → pvM → Prop) (SW : Nat → pvL → pvM → Prop) : Prop :=
  ∀ n pc ls z, (pvOkL ls → pvRng z → pvSt1 F Ca Co Ex ret blk cut Q SW n pc ls z) → SW pc ls z
def pvOkM (F : pvF) (Ca : pvCa) (Co : pvCo) (Ex : pvEx) (ret : Option FieldType) (blk : Nat → List (Instr × Nat)) (cut : Nat → Option (List Bool)) (nL : Nat) (C : pvC) : Prop :=
  ∀ (Q : pvO → pvM → Prop) (SW : Nat → pvL → pvM → Prop), pvClo F Ca Co Ex ret blk cut Q SW → ∀ as z, C as z Q → pvOkS as → pvRng z → pvCs as ≤ nL ∧ SW 0 (pvEn as nL) z

/-! methods of the law: any cells, any growth -/
def pvRtG (co : Nat) (ret : Option FieldType) (Q : pvO → pvM → Prop) : Option pvV → pvM → Nat → Prop := fun v z g => g ≤ co ∧ pvRv ret v ∧ Q (.inl v) z
def pvKcG (SW : pvJ) : pvJ := SW
abbrev pvStG (lim : Nat → Prop) (sc : Nat × (Nat → Int)) (F : pvF) (Ca : pvCa) (Co : pvCo) (Gm : Nat) (Rt : Option pvV → pvM → Nat → Prop) (blk : Nat → List (Instr × Nat)) (cut : Nat → Option (List Bool)) (SW : pvJ) (n pc : Nat) (ls : pvL) (st : List pvV) (z : pvM) (g : Nat) : Prop :=
  pvB lim sc F Ca Co (fun _ => none) Gm (pvX lim sc F Ca Co (fun _ => none) Gm Rt (fun _ _ _ _ => False) blk cut SW n) Rt (fun _ _ _ _ => False) (blk pc) pc ls st z g
def pvCloG (lim : Nat → Prop) (sc : Nat × (Nat → Int)) (F : pvF) (Ca : pvCa) (Co : pvCo) (Gm : Nat) (Rt : Option pvV → pvM → Nat → Prop) (blk : Nat → List (Instr × Nat)) (cut : Nat → Option (List Bool)) (SW : pvJ) : Prop :=
  ∀ n pc ls st z g, (pvOkL ls → pvOkS st → pvRng z → pvStG lim sc F Ca Co Gm Rt blk cut SW n pc ls st z g) → SW pc ls st z g
def pvOkG (lim : Nat → Prop) (sc : Nat × (Nat → Int)) (F : pvF) (Ca : pvCa) (Co : pvCo) (Gm co : Nat) (ret : Option FieldType) (blk : Nat → List (Instr × Nat)) (cut : Nat → Option (List Bool)) (nL : Nat) (C : pvC) : Prop :=
  ∀ (Q : pvO → pvM → Prop) (SW : pvJ), pvCloG lim sc F Ca Co Gm (pvRtG co ret Q) blk cut SW → ∀ as z, C as z Q → pvOkS as → pvRng z → pvCs as ≤ nL ∧ SW 0 (pvEn as nL) [] z 0
