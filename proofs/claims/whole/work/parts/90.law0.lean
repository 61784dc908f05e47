/-! the law: a step of its own, with the script in cell 60 -/
abbrev pvSt2 (sc : Nat × (Nat → Int)) (F : pvF) (Ca : pvCa) (Co : pvCo) (Ex : pvEx) (ret : Option FieldType) (blk : Nat → List (Instr × Nat)) (cut : Nat → Option (List Bool)) (Q : pvO → pvM → Prop) (SW : Nat → pvL → pvM → Prop) (n pc : Nat) (ls : pvL) (z : pvM) : Prop :=
  pvB 61 sc F Ca Co Ex 1 (pvX 61 sc F Ca Co Ex 1 (pvRt ret Q) (pvTh Q) blk cut (pvKc SW) n) (pvRt ret Q) (pvTh Q) (blk pc) pc ls [] z 0
def pvCl2 (sc : Nat × (Nat → Int)) (F : pvF) (Ca : pvCa) (Co : pvCo) (Ex : pvEx) (ret : Option FieldType) (blk : Nat → List (Instr × Nat)) (cut : Nat → Option (List Bool)) (Q : pvO → pvM → Prop) (SW : Nat → pvL → pvM → Prop) : Prop :=
  ∀ n pc ls z, (pvOkL ls → pvRng z → pvSt2 sc F Ca Co Ex ret blk cut Q SW n pc ls z) → SW pc ls z
abbrev lwL (i : Int) : pvL := [some (vR 60), some (vR 0), some (vR 39), some (vR 58), some (vR 59), some (vI i), none, none, none]
