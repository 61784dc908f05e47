/-! the law: a step of its own, with the script in cell 60; g counts what a caught exception may leave in the heap -/
def pvRt2 (Gm : Nat) (ret : Option FieldType) (Q : pvO → pvM → Prop) : Option pvV → pvM → Nat → Prop := fun v z g => pvRv ret v ∧ Q (.inl v) z ∧ g ≤ Gm
def pvTh2 : Nat → Nat → pvM → Nat → Prop := fun _ _ _ _ => False
abbrev pvSt2 (sc : Nat × (Nat → Int)) (Gm : Nat) (F : pvF) (Ca : pvCa) (Co : pvCo) (Ex : pvEx) (ret : Option FieldType) (blk : Nat → List (Instr × Nat)) (cut : Nat → Option (List Bool)) (Q : pvO → pvM → Prop) (SW : Nat → pvL → pvM → Nat → Prop) (n pc : Nat) (ls : pvL) (z : pvM) (g : Nat) : Prop :=
  pvB 61 sc F Ca Co Ex Gm (pvX 61 sc F Ca Co Ex Gm (pvRt2 Gm ret Q) pvTh2 blk cut SW n) (pvRt2 Gm ret Q) pvTh2 (blk pc) pc ls [] z g
def pvCl2 (sc : Nat × (Nat → Int)) (Gm : Nat) (F : pvF) (Ca : pvCa) (Co : pvCo) (Ex : pvEx) (ret : Option FieldType) (blk : Nat → List (Instr × Nat)) (cut : Nat → Option (List Bool)) (Q : pvO → pvM → Prop) (SW : Nat → pvL → pvM → Nat → Prop) : Prop :=
  ∀ n pc ls z g, (pvOkL ls → pvRng z → pvSt2 sc Gm F Ca Co Ex ret blk cut Q SW n pc ls z g) → SW pc ls z g
abbrev lwL (i : Int) : pvL := [some (vR 60), some (vR 0), some (vR 39), some (vR 58), some (vR 59), some (vI i), none, none, none]
