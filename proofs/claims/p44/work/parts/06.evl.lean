
def pvLI (lim : Nat → Prop) (sc : Nat × (Nat → Int)) (F : pvF) (Ca : pvCa) (Co : pvCo) (Ex : pvEx) (Gm : Nat) (J : pvJ) (Rt : Option pvV → pvM → Nat → Prop) (Th : Nat → Nat → pvM → Nat → Prop) (q : Option pvV) (cs : List (Instr × Nat)) (pc : Nat) (ls : pvL) (st : List pvV) (z : pvM) (g : Nat) : Prop := match q with
  | some (.inl a) => pvB lim sc F Ca Co Ex Gm J Rt Th cs pc ls (vI a :: st) z g
  | _ => False
theorem pvLI_s {lim : Nat → Prop} {sc : Nat × (Nat → Int)} {F : pvF} {Ca : pvCa} {Co : pvCo} {Ex : pvEx} {Gm : Nat} {J : pvJ} {Rt : Option pvV → pvM → Nat → Prop} {Th : Nat → Nat → pvM → Nat → Prop} {a : Int} {cs : List (Instr × Nat)} {pc : Nat} {ls : pvL} {st : List pvV} {z : pvM} {g : Nat} : pvLI lim sc F Ca Co Ex Gm J Rt Th (some (vI a)) cs pc ls st z g = pvB lim sc F Ca Co Ex Gm J Rt Th cs pc ls (vI a :: st) z g := rfl
def pvLL (lim : Nat → Prop) (sc : Nat × (Nat → Int)) (F : pvF) (Ca : pvCa) (Co : pvCo) (Ex : pvEx) (Gm : Nat) (J : pvJ) (Rt : Option pvV → pvM → Nat → Prop) (Th : Nat → Nat → pvM → Nat → Prop) (q : Option pvV) (cs : List (Instr × Nat)) (pc : Nat) (ls : pvL) (st : List pvV) (z : pvM) (g : Nat) : Prop := match q with
  | some (.inr (.inl a)) => pvB lim sc F Ca Co Ex Gm J Rt Th cs pc ls (vL a :: st) z g
  | _ => False
theorem pvLL_s {lim : Nat → Prop} {sc : Nat × (Nat → Int)} {F : pvF} {Ca : pvCa} {Co : pvCo} {Ex : pvEx} {Gm : Nat} {J : pvJ} {Rt : Option pvV → pvM → Nat → Prop} {Th : Nat → Nat → pvM → Nat → Prop} {a : Int} {cs : List (Instr × Nat)} {pc : Nat} {ls : pvL} {st : List pvV} {z : pvM} {g : Nat} : pvLL lim sc F Ca Co Ex Gm J Rt Th (some (vL a)) cs pc ls st z g = pvB lim sc F Ca Co Ex Gm J Rt Th cs pc ls (vL a :: st) z g := rfl
def pvLA (lim : Nat → Prop) (sc : Nat × (Nat → Int)) (F : pvF) (Ca : pvCa) (Co : pvCo) (Ex : pvEx) (Gm : Nat) (J : pvJ) (Rt : Option pvV → pvM → Nat → Prop) (Th : Nat → Nat → pvM → Nat → Prop) (q : Option pvV) (cs : List (Instr × Nat)) (pc : Nat) (ls : pvL) (st : List pvV) (z : pvM) (g : Nat) : Prop := match q with
  | some (.inr (.inr (.inl a))) => pvB lim sc F Ca Co Ex Gm J Rt Th cs pc ls (vR a :: st) z g
  | _ => False
theorem pvLA_s {lim : Nat → Prop} {sc : Nat × (Nat → Int)} {F : pvF} {Ca : pvCa} {Co : pvCo} {Ex : pvEx} {Gm : Nat} {J : pvJ} {Rt : Option pvV → pvM → Nat → Prop} {Th : Nat → Nat → pvM → Nat → Prop} {a : Nat} {cs : List (Instr × Nat)} {pc : Nat} {ls : pvL} {st : List pvV} {z : pvM} {g : Nat} : pvLA lim sc F Ca Co Ex Gm J Rt Th (some (vR a)) cs pc ls st z g = pvB lim sc F Ca Co Ex Gm J Rt Th cs pc ls (vR a :: st) z g := rfl
def pvLD (lim : Nat → Prop) (sc : Nat × (Nat → Int)) (F : pvF) (Ca : pvCa) (Co : pvCo) (Ex : pvEx) (Gm : Nat) (J : pvJ) (Rt : Option pvV → pvM → Nat → Prop) (Th : Nat → Nat → pvM → Nat → Prop) (q : Option pvV) (cs : List (Instr × Nat)) (pc : Nat) (ls : pvL) (st : List pvV) (z : pvM) (g : Nat) : Prop := match q with
  | some (.inr (.inr (.inr (.inl a)))) => pvB lim sc F Ca Co Ex Gm J Rt Th cs pc ls (vD a :: st) z g
  | _ => False
theorem pvLD_s {lim : Nat → Prop} {sc : Nat × (Nat → Int)} {F : pvF} {Ca : pvCa} {Co : pvCo} {Ex : pvEx} {Gm : Nat} {J : pvJ} {Rt : Option pvV → pvM → Nat → Prop} {Th : Nat → Nat → pvM → Nat → Prop} {a : UInt64} {cs : List (Instr × Nat)} {pc : Nat} {ls : pvL} {st : List pvV} {z : pvM} {g : Nat} : pvLD lim sc F Ca Co Ex Gm J Rt Th (some (vD a)) cs pc ls st z g = pvB lim sc F Ca Co Ex Gm J Rt Th cs pc ls (vD a :: st) z g := rfl
def pvLF (lim : Nat → Prop) (sc : Nat × (Nat → Int)) (F : pvF) (Ca : pvCa) (Co : pvCo) (Ex : pvEx) (Gm : Nat) (J : pvJ) (Rt : Option pvV → pvM → Nat → Prop) (Th : Nat → Nat → pvM → Nat → Prop) (q : Option pvV) (cs : List (Instr × Nat)) (pc : Nat) (ls : pvL) (st : List pvV) (z : pvM) (g : Nat) : Prop := match q with
  | some (.inr (.inr (.inr (.inr a)))) => pvB lim sc F Ca Co Ex Gm J Rt Th cs pc ls (vF a :: st) z g
  | _ => False
theorem pvLF_s {lim : Nat → Prop} {sc : Nat × (Nat → Int)} {F : pvF} {Ca : pvCa} {Co : pvCo} {Ex : pvEx} {Gm : Nat} {J : pvJ} {Rt : Option pvV → pvM → Nat → Prop} {Th : Nat → Nat → pvM → Nat → Prop} {a : UInt32} {cs : List (Instr × Nat)} {pc : Nat} {ls : pvL} {st : List pvV} {z : pvM} {g : Nat} : pvLF lim sc F Ca Co Ex Gm J Rt Th (some (vF a)) cs pc ls st z g = pvB lim sc F Ca Co Ex Gm J Rt Th cs pc ls (vF a :: st) z g := rfl
def pvIc (lim : Nat → Prop) (sc : Nat × (Nat → Int)) (F : pvF) (Ca : pvCa) (Co : pvCo) (Ex : pvEx) (Gm : Nat) (J : pvJ) (Rt : Option pvV → pvM → Nat → Prop) (Th : Nat → Nat → pvM → Nat → Prop) (q : Option pvV) (k : Nat) (c : Int) (cs : List (Instr × Nat)) (pc : Nat) (ls : pvL) (st : List pvV) (z : pvM) (g : Nat) : Prop := match q with
  | some (.inl a) => (k < ls.length ∧ pvR (a + c)) ∧ pvB lim sc F Ca Co Ex Gm J Rt Th cs pc (pvS1 ls k (vI (a + c))) st z g
  | _ => False
theorem pvIc_s {lim : Nat → Prop} {sc : Nat × (Nat → Int)} {F : pvF} {Ca : pvCa} {Co : pvCo} {Ex : pvEx} {Gm : Nat} {J : pvJ} {Rt : Option pvV → pvM → Nat → Prop} {Th : Nat → Nat → pvM → Nat → Prop} {a c : Int} {k : Nat} {cs : List (Instr × Nat)} {pc : Nat} {ls : pvL} {st : List pvV} {z : pvM} {g : Nat} : pvIc lim sc F Ca Co Ex Gm J Rt Th (some (vI a)) k c cs pc ls st z g = ((k < ls.length ∧ pvR (a + c)) ∧ pvB lim sc F Ca Co Ex Gm J Rt Th cs pc (pvS1 ls k (vI (a + c))) st z g) := rfl
def pvGf (lim : Nat → Prop) (sc : Nat × (Nat → Int)) (F : pvF) (Ca : pvCa) (Co : pvCo) (Ex : pvEx) (Gm : Nat) (J : pvJ) (Rt : Option pvV → pvM → Nat → Prop) (Th : Nat → Nat → pvM → Nat → Prop) (q : Option (Nat × Nat × Nat)) (id : Nat) (cs : List (Instr × Nat)) (pc : Nat) (ls : pvL) (st : List pvV) (z : pvM) (g : Nat) : Prop := match q with
  | some (ci, j, 2) => (lim id ∧ pvSh id = .inl ci) ∧ pvB lim sc F Ca Co Ex Gm J Rt Th cs pc ls (vR (pvRf id j) :: st) z g
  | some (ci, j, 0) => (lim id ∧ pvSh id = .inl ci) ∧ pvB lim sc F Ca Co Ex Gm J Rt Th cs pc ls (vI (z.1 id j) :: st) z g
  | some (ci, j, 1) => (lim id ∧ pvSh id = .inl ci) ∧ pvB lim sc F Ca Co Ex Gm J Rt Th cs pc ls (vI (z.1 id j) :: st) z g
  | _ => False
theorem pvGf_0 {lim : Nat → Prop} {sc : Nat × (Nat → Int)} {F : pvF} {Ca : pvCa} {Co : pvCo} {Ex : pvEx} {Gm : Nat} {J : pvJ} {Rt : Option pvV → pvM → Nat → Prop} {Th : Nat → Nat → pvM → Nat → Prop} {ci j id : Nat} {cs : List (Instr × Nat)} {pc : Nat} {ls : pvL} {st : List pvV} {z : pvM} {g : Nat} : pvGf lim sc F Ca Co Ex Gm J Rt Th (some (ci, j, 0)) id cs pc ls st z g = ((lim id ∧ pvSh id = .inl ci) ∧ pvB lim sc F Ca Co Ex Gm J Rt Th cs pc ls (vI (z.1 id j) :: st) z g) := rfl
theorem pvGf_1 {lim : Nat → Prop} {sc : Nat × (Nat → Int)} {F : pvF} {Ca : pvCa} {Co : pvCo} {Ex : pvEx} {Gm : Nat} {J : pvJ} {Rt : Option pvV → pvM → Nat → Prop} {Th : Nat → Nat → pvM → Nat → Prop} {ci j id : Nat} {cs : List (Instr × Nat)} {pc : Nat} {ls : pvL} {st : List pvV} {z : pvM} {g : Nat} : pvGf lim sc F Ca Co Ex Gm J Rt Th (some (ci, j, 1)) id cs pc ls st z g = ((lim id ∧ pvSh id = .inl ci) ∧ pvB lim sc F Ca Co Ex Gm J Rt Th cs pc ls (vI (z.1 id j) :: st) z g) := rfl
theorem pvGf_2 {lim : Nat → Prop} {sc : Nat × (Nat → Int)} {F : pvF} {Ca : pvCa} {Co : pvCo} {Ex : pvEx} {Gm : Nat} {J : pvJ} {Rt : Option pvV → pvM → Nat → Prop} {Th : Nat → Nat → pvM → Nat → Prop} {ci j id : Nat} {cs : List (Instr × Nat)} {pc : Nat} {ls : pvL} {st : List pvV} {z : pvM} {g : Nat} : pvGf lim sc F Ca Co Ex Gm J Rt Th (some (ci, j, 2)) id cs pc ls st z g = ((lim id ∧ pvSh id = .inl ci) ∧ pvB lim sc F Ca Co Ex Gm J Rt Th cs pc ls (vR (pvRf id j) :: st) z g) := rfl
def pvPf (lim : Nat → Prop) (sc : Nat × (Nat → Int)) (F : pvF) (Ca : pvCa) (Co : pvCo) (Ex : pvEx) (Gm : Nat) (J : pvJ) (Rt : Option pvV → pvM → Nat → Prop) (Th : Nat → Nat → pvM → Nat → Prop) (q : Option (Nat × Nat × Nat)) (id : Nat) (a : Int) (cs : List (Instr × Nat)) (pc : Nat) (ls : pvL) (st : List pvV) (z : pvM) (g : Nat) : Prop := match q with
  | some (ci, j, 0) => (lim id ∧ pvSh id = .inl ci) ∧ pvB lim sc F Ca Co Ex Gm J Rt Th cs pc ls st (pvUp z.1 id j a, z.2) g
  | some (ci, j, 1) => (lim id ∧ pvSh id = .inl ci ∧ (a = 0 ∨ a = 1)) ∧ pvB lim sc F Ca Co Ex Gm J Rt Th cs pc ls st (pvUp z.1 id j a, z.2) g
  | _ => False
theorem pvPf_0 {lim : Nat → Prop} {sc : Nat × (Nat → Int)} {F : pvF} {Ca : pvCa} {Co : pvCo} {Ex : pvEx} {Gm : Nat} {J : pvJ} {Rt : Option pvV → pvM → Nat → Prop} {Th : Nat → Nat → pvM → Nat → Prop} {ci j id : Nat} {a : Int} {cs : List (Instr × Nat)} {pc : Nat} {ls : pvL} {st : List pvV} {z : pvM} {g : Nat} : pvPf lim sc F Ca Co Ex Gm J Rt Th (some (ci, j, 0)) id a cs pc ls st z g = ((lim id ∧ pvSh id = .inl ci) ∧ pvB lim sc F Ca Co Ex Gm J Rt Th cs pc ls st (pvUp z.1 id j a, z.2) g) := rfl
theorem pvPf_1 {lim : Nat → Prop} {sc : Nat × (Nat → Int)} {F : pvF} {Ca : pvCa} {Co : pvCo} {Ex : pvEx} {Gm : Nat} {J : pvJ} {Rt : Option pvV → pvM → Nat → Prop} {Th : Nat → Nat → pvM → Nat → Prop} {ci j id : Nat} {a : Int} {cs : List (Instr × Nat)} {pc : Nat} {ls : pvL} {st : List pvV} {z : pvM} {g : Nat} : pvPf lim sc F Ca Co Ex Gm J Rt Th (some (ci, j, 1)) id a cs pc ls st z g = ((lim id ∧ pvSh id = .inl ci ∧ (a = 0 ∨ a = 1)) ∧ pvB lim sc F Ca Co Ex Gm J Rt Th cs pc ls st (pvUp z.1 id j a, z.2) g) := rfl
def pvAf (lim : Nat → Prop) (sc : Nat × (Nat → Int)) (F : pvF) (Ca : pvCa) (Co : pvCo) (Ex : pvEx) (Gm : Nat) (J : pvJ) (Rt : Option pvV → pvM → Nat → Prop) (Th : Nat → Nat → pvM → Nat → Prop) (cs : List (Instr × Nat)) (pc : Nat) (ls : pvL) (rest : List pvV) (g co : Nat) : pvO → pvM → Prop := pvKk (fun v z' => pvB lim sc F Ca Co Ex Gm J Rt Th cs (pc + 3) ls (pvPush v rest) z' (g + co)) (fun k z' => Th k pc z' g)
theorem pvAf_v {lim : Nat → Prop} {sc : Nat × (Nat → Int)} {F : pvF} {Ca : pvCa} {Co : pvCo} {Ex : pvEx} {Gm : Nat} {J : pvJ} {Rt : Option pvV → pvM → Nat → Prop} {Th : Nat → Nat → pvM → Nat → Prop} {cs : List (Instr × Nat)} {pc : Nat} {ls : pvL} {st : List pvV} {z : pvM} {g : Nat} {co : Nat} {v : Option pvV} : pvAf lim sc F Ca Co Ex Gm J Rt Th cs pc ls st g co (.inl v) z = pvB lim sc F Ca Co Ex Gm J Rt Th cs (pc + 3) ls (pvPush v st) z (g + co) := rfl
theorem pvAf_x {lim : Nat → Prop} {sc : Nat × (Nat → Int)} {F : pvF} {Ca : pvCa} {Co : pvCo} {Ex : pvEx} {Gm : Nat} {J : pvJ} {Rt : Option pvV → pvM → Nat → Prop} {Th : Nat → Nat → pvM → Nat → Prop} {cs : List (Instr × Nat)} {pc : Nat} {ls : pvL} {st : List pvV} {z : pvM} {g : Nat} {co k : Nat} : pvAf lim sc F Ca Co Ex Gm J Rt Th cs pc ls st g co (.inr k) z = Th k pc z g := rfl
def pvC2 (lim : Nat → Prop) (sc : Nat × (Nat → Int)) (F : pvF) (Ca : pvCa) (Co : pvCo) (Ex : pvEx) (Gm : Nat) (J : pvJ) (Rt : Option pvV → pvM → Nat → Prop) (Th : Nat → Nat → pvM → Nat → Prop) (sta : Bool) (ci co : Nat) (C : pvC) (q : Option (List pvV × List pvV)) (cs : List (Instr × Nat)) (pc : Nat) (ls : pvL) (z : pvM) (g : Nat) : Prop := match q with
  | none => False
  | some (as, rest) => pvCs rest ≤ 8 ∧ (sta = false → pvRecv lim ci as) ∧ C as z (pvAf lim sc F Ca Co Ex Gm J Rt Th cs pc ls rest g co)
theorem pvC2_s {lim : Nat → Prop} {sc : Nat × (Nat → Int)} {F : pvF} {Ca : pvCa} {Co : pvCo} {Ex : pvEx} {Gm : Nat} {J : pvJ} {Rt : Option pvV → pvM → Nat → Prop} {Th : Nat → Nat → pvM → Nat → Prop} {cs : List (Instr × Nat)} {pc : Nat} {ls : pvL} {z : pvM} {g ci co : Nat} {sta : Bool} {C : pvC} {as rest : List pvV} : pvC2 lim sc F Ca Co Ex Gm J Rt Th sta ci co C (some (as, rest)) cs pc ls z g = (pvCs rest ≤ 8 ∧ (sta = false → pvRecv lim ci as) ∧ C as z (pvAf lim sc F Ca Co Ex Gm J Rt Th cs pc ls rest g co)) := rfl
def pvC1 (lim : Nat → Prop) (sc : Nat × (Nat → Int)) (F : pvF) (Ca : pvCa) (Co : pvCo) (Ex : pvEx) (Gm : Nat) (J : pvJ) (Rt : Option pvV → pvM → Nat → Prop) (Th : Nat → Nat → pvM → Nat → Prop) (e : Option (Nat × Bool × Nat × Nat × pvC)) (sta : Bool) (cs : List (Instr × Nat)) (pc : Nat) (ls : pvL) (st : List pvV) (z : pvM) (g : Nat) : Prop := match e with
  | none => False
  | some (n, b, ci, co, C) => b = sta ∧ g + co < Gm ∧ pvC2 lim sc F Ca Co Ex Gm J Rt Th sta ci co C (pvPop n st []) cs pc ls z g
theorem pvC1_s {lim : Nat → Prop} {sc : Nat × (Nat → Int)} {F : pvF} {Ca : pvCa} {Co : pvCo} {Ex : pvEx} {Gm : Nat} {J : pvJ} {Rt : Option pvV → pvM → Nat → Prop} {Th : Nat → Nat → pvM → Nat → Prop} {cs : List (Instr × Nat)} {pc : Nat} {ls : pvL} {st : List pvV} {z : pvM} {g : Nat} {n ci co : Nat} {b sta : Bool} {C : pvC} : pvC1 lim sc F Ca Co Ex Gm J Rt Th (some (n, b, ci, co, C)) sta cs pc ls st z g = (b = sta ∧ g + co < Gm ∧ pvC2 lim sc F Ca Co Ex Gm J Rt Th sta ci co C (pvPop n st []) cs pc ls z g) := rfl
theorem pvC1_e {lim : Nat → Prop} {sc : Nat × (Nat → Int)} {F : pvF} {Ca : pvCa} {Co : pvCo} {Ex : pvEx} {Gm : Nat} {J : pvJ} {Rt : Option pvV → pvM → Nat → Prop} {Th : Nat → Nat → pvM → Nat → Prop} {cs : List (Instr × Nat)} {pc : Nat} {ls : pvL} {st : List pvV} {z : pvM} {g : Nat} {e : Option (Nat × Bool × Nat × Nat × pvC)} {sta : Bool} : pvCall lim Gm e sta st z g (fun k z' g' => Th k pc z' g') (fun st' z' g' => pvB lim sc F Ca Co Ex Gm J Rt Th cs (pc + 3) ls st' z' g') = pvC1 lim sc F Ca Co Ex Gm J Rt Th e sta cs pc ls st z g := by
  rcases e with _ | ⟨n, b, ci, co, C⟩
  · rfl
  · simp only [pvCall, pvC1, pvC2]
    cases pvPop n st [] <;> rfl
section
variable {lim : Nat → Prop} {sc : Nat × (Nat → Int)} {F : pvF} {Ca : pvCa} {Co : pvCo} {Ex : pvEx} {Gm : Nat} {J : pvJ} {Rt : Option pvV → pvM → Nat → Prop} {Th : Nat → Nat → pvM → Nat → Prop}
theorem pvE_nil {pc : Nat} {ls : pvL} {st : List pvV} {z : pvM} {g : Nat} : pvB lim sc F Ca Co Ex Gm J Rt Th [] pc ls st z g = J pc ls st z g := rfl
theorem pvE_iconst {k : Int} {n : Nat} {cs : List (Instr × Nat)} {pc : Nat} {ls : pvL} {st : List pvV} {z : pvM} {g : Nat} : pvB lim sc F Ca Co Ex Gm J Rt Th ((.iconst k, n) :: cs) pc ls (st) z g = (pvR k ∧ pvB lim sc F Ca Co Ex Gm J Rt Th cs (pc + n) (ls) (vI k :: st) z g) := rfl
theorem pvE_bipush {k : Int} {n : Nat} {cs : List (Instr × Nat)} {pc : Nat} {ls : pvL} {st : List pvV} {z : pvM} {g : Nat} : pvB lim sc F Ca Co Ex Gm J Rt Th ((.bipush k, n) :: cs) pc ls (st) z g = ((-128 ≤ k ∧ k ≤ 127) ∧ pvB lim sc F Ca Co Ex Gm J Rt Th cs (pc + n) (ls) (vI k :: st) z g) := rfl
theorem pvE_sipush {k : Int} {n : Nat} {cs : List (Instr × Nat)} {pc : Nat} {ls : pvL} {st : List pvV} {z : pvM} {g : Nat} : pvB lim sc F Ca Co Ex Gm J Rt Th ((.sipush k, n) :: cs) pc ls (st) z g = ((-32768 ≤ k ∧ k ≤ 32767) ∧ pvB lim sc F Ca Co Ex Gm J Rt Th cs (pc + n) (ls) (vI k :: st) z g) := rfl
theorem pvE_lconst0 {n : Nat} {cs : List (Instr × Nat)} {pc : Nat} {ls : pvL} {st : List pvV} {z : pvM} {g : Nat} : pvB lim sc F Ca Co Ex Gm J Rt Th ((.lconst 0, n) :: cs) pc ls (st) z g = (True ∧ pvB lim sc F Ca Co Ex Gm J Rt Th cs (pc + n) (ls) (vL 0 :: st) z g) := rfl
theorem pvE_lconst1 {n : Nat} {cs : List (Instr × Nat)} {pc : Nat} {ls : pvL} {st : List pvV} {z : pvM} {g : Nat} : pvB lim sc F Ca Co Ex Gm J Rt Th ((.lconst 1, n) :: cs) pc ls (st) z g = (True ∧ pvB lim sc F Ca Co Ex Gm J Rt Th cs (pc + n) (ls) (vL 1 :: st) z g) := rfl
theorem pvE_ldc {ix : Nat} {a : Int} (h0 : Co ix = some (.inl a)) {n : Nat} {cs : List (Instr × Nat)} {pc : Nat} {ls : pvL} {st : List pvV} {z : pvM} {g : Nat} : pvB lim sc F Ca Co Ex Gm J Rt Th ((.ldc ix, n) :: cs) pc ls (st) z g = (pvR a ∧ pvB lim sc F Ca Co Ex Gm J Rt Th cs (pc + n) (ls) (vI a :: st) z g) := by
  simp only [pvB, pvA, h0]
theorem pvE_ldc_w {ix : Nat} {a : Int} (h0 : Co ix = some (.inl a)) {n : Nat} {cs : List (Instr × Nat)} {pc : Nat} {ls : pvL} {st : List pvV} {z : pvM} {g : Nat} : pvB lim sc F Ca Co Ex Gm J Rt Th ((.ldc_w ix, n) :: cs) pc ls (st) z g = (pvR a ∧ pvB lim sc F Ca Co Ex Gm J Rt Th cs (pc + n) (ls) (vI a :: st) z g) := by
  simp only [pvB, pvA, h0]
theorem pvE_ldc2_w {ix : Nat} {a : Int} (h0 : Co ix = some (.inr (.inl a))) {n : Nat} {cs : List (Instr × Nat)} {pc : Nat} {ls : pvL} {st : List pvV} {z : pvM} {g : Nat} : pvB lim sc F Ca Co Ex Gm J Rt Th ((.ldc2_w ix, n) :: cs) pc ls (st) z g = (True ∧ pvB lim sc F Ca Co Ex Gm J Rt Th cs (pc + n) (ls) (vL a :: st) z g) := by
  simp only [pvB, pvA, h0]
theorem pvE_iload {k : Nat} {n : Nat} {cs : List (Instr × Nat)} {pc : Nat} {ls : pvL} {st : List pvV} {z : pvM} {g : Nat} : pvB lim sc F Ca Co Ex Gm J Rt Th ((.iload k, n) :: cs) pc ls (st) z g = (pvLI lim sc F Ca Co Ex Gm J Rt Th (pvLd ls k) cs (pc + n) ls st z g) := by
  simp only [pvB, pvA, pvLI]
  generalize pvLd ls k = q
  rcases q with _ | (a | a | a | a | a) <;> first | rfl | simp
theorem pvE_iload_n0 {n : Nat} {cs : List (Instr × Nat)} {pc : Nat} {ls : pvL} {st : List pvV} {z : pvM} {g : Nat} : pvB lim sc F Ca Co Ex Gm J Rt Th ((.iload_n 0, n) :: cs) pc ls (st) z g = (pvLI lim sc F Ca Co Ex Gm J Rt Th (pvLd ls 0) cs (pc + n) ls st z g) := by
  show (match pvA Co (.iload_n 0) ls st with | some (o, ls', st') => _ | none => _) = _
  simp only [pvA, pvLI]
  show (match (match pvLd ls 0 with | some (.inl a) => some (True, ls, vI a :: st) | _ => none) with | some (o, ls', st') => _ | none => _) = _
  generalize pvLd ls 0 = q
  rcases q with _ | (a | a | a | a | a) <;> first | rfl | simp
theorem pvE_iload_n1 {n : Nat} {cs : List (Instr × Nat)} {pc : Nat} {ls : pvL} {st : List pvV} {z : pvM} {g : Nat} : pvB lim sc F Ca Co Ex Gm J Rt Th ((.iload_n 1, n) :: cs) pc ls (st) z g = (pvLI lim sc F Ca Co Ex Gm J Rt Th (pvLd ls 1) cs (pc + n) ls st z g) := by
  show (match pvA Co (.iload_n 1) ls st with | some (o, ls', st') => _ | none => _) = _
  simp only [pvA, pvLI]
  show (match (match pvLd ls 1 with | some (.inl a) => some (True, ls, vI a :: st) | _ => none) with | some (o, ls', st') => _ | none => _) = _
  generalize pvLd ls 1 = q
  rcases q with _ | (a | a | a | a | a) <;> first | rfl | simp
theorem pvE_iload_n2 {n : Nat} {cs : List (Instr × Nat)} {pc : Nat} {ls : pvL} {st : List pvV} {z : pvM} {g : Nat} : pvB lim sc F Ca Co Ex Gm J Rt Th ((.iload_n 2, n) :: cs) pc ls (st) z g = (pvLI lim sc F Ca Co Ex Gm J Rt Th (pvLd ls 2) cs (pc + n) ls st z g) := by
  show (match pvA Co (.iload_n 2) ls st with | some (o, ls', st') => _ | none => _) = _
  simp only [pvA, pvLI]
  show (match (match pvLd ls 2 with | some (.inl a) => some (True, ls, vI a :: st) | _ => none) with | some (o, ls', st') => _ | none => _) = _
  generalize pvLd ls 2 = q
  rcases q with _ | (a | a | a | a | a) <;> first | rfl | simp
theorem pvE_iload_n3 {n : Nat} {cs : List (Instr × Nat)} {pc : Nat} {ls : pvL} {st : List pvV} {z : pvM} {g : Nat} : pvB lim sc F Ca Co Ex Gm J Rt Th ((.iload_n 3, n) :: cs) pc ls (st) z g = (pvLI lim sc F Ca Co Ex Gm J Rt Th (pvLd ls 3) cs (pc + n) ls st z g) := by
  show (match pvA Co (.iload_n 3) ls st with | some (o, ls', st') => _ | none => _) = _
  simp only [pvA, pvLI]
  show (match (match pvLd ls 3 with | some (.inl a) => some (True, ls, vI a :: st) | _ => none) with | some (o, ls', st') => _ | none => _) = _
  generalize pvLd ls 3 = q
  rcases q with _ | (a | a | a | a | a) <;> first | rfl | simp
theorem pvE_lload {k : Nat} {n : Nat} {cs : List (Instr × Nat)} {pc : Nat} {ls : pvL} {st : List pvV} {z : pvM} {g : Nat} : pvB lim sc F Ca Co Ex Gm J Rt Th ((.lload k, n) :: cs) pc ls (st) z g = (pvLL lim sc F Ca Co Ex Gm J Rt Th (pvLd ls k) cs (pc + n) ls st z g) := by
  simp only [pvB, pvA, pvLL]
  generalize pvLd ls k = q
  rcases q with _ | (a | a | a | a | a) <;> first | rfl | simp
theorem pvE_lload_n0 {n : Nat} {cs : List (Instr × Nat)} {pc : Nat} {ls : pvL} {st : List pvV} {z : pvM} {g : Nat} : pvB lim sc F Ca Co Ex Gm J Rt Th ((.lload_n 0, n) :: cs) pc ls (st) z g = (pvLL lim sc F Ca Co Ex Gm J Rt Th (pvLd ls 0) cs (pc + n) ls st z g) := by
  show (match pvA Co (.lload_n 0) ls st with | some (o, ls', st') => _ | none => _) = _
  simp only [pvA, pvLL]
  show (match (match pvLd ls 0 with | some (.inr (.inl a)) => some (True, ls, vL a :: st) | _ => none) with | some (o, ls', st') => _ | none => _) = _
  generalize pvLd ls 0 = q
  rcases q with _ | (a | a | a | a | a) <;> first | rfl | simp
theorem pvE_lload_n1 {n : Nat} {cs : List (Instr × Nat)} {pc : Nat} {ls : pvL} {st : List pvV} {z : pvM} {g : Nat} : pvB lim sc F Ca Co Ex Gm J Rt Th ((.lload_n 1, n) :: cs) pc ls (st) z g = (pvLL lim sc F Ca Co Ex Gm J Rt Th (pvLd ls 1) cs (pc + n) ls st z g) := by
  show (match pvA Co (.lload_n 1) ls st with | some (o, ls', st') => _ | none => _) = _
  simp only [pvA, pvLL]
  show (match (match pvLd ls 1 with | some (.inr (.inl a)) => some (True, ls, vL a :: st) | _ => none) with | some (o, ls', st') => _ | none => _) = _
  generalize pvLd ls 1 = q
  rcases q with _ | (a | a | a | a | a) <;> first | rfl | simp
theorem pvE_lload_n2 {n : Nat} {cs : List (Instr × Nat)} {pc : Nat} {ls : pvL} {st : List pvV} {z : pvM} {g : Nat} : pvB lim sc F Ca Co Ex Gm J Rt Th ((.lload_n 2, n) :: cs) pc ls (st) z g = (pvLL lim sc F Ca Co Ex Gm J Rt Th (pvLd ls 2) cs (pc + n) ls st z g) := by
  show (match pvA Co (.lload_n 2) ls st with | some (o, ls', st') => _ | none => _) = _
  simp only [pvA, pvLL]
  show (match (match pvLd ls 2 with | some (.inr (.inl a)) => some (True, ls, vL a :: st) | _ => none) with | some (o, ls', st') => _ | none => _) = _
  generalize pvLd ls 2 = q
  rcases q with _ | (a | a | a | a | a) <;> first | rfl | simp
theorem pvE_lload_n3 {n : Nat} {cs : List (Instr × Nat)} {pc : Nat} {ls : pvL} {st : List pvV} {z : pvM} {g : Nat} : pvB lim sc F Ca Co Ex Gm J Rt Th ((.lload_n 3, n) :: cs) pc ls (st) z g = (pvLL lim sc F Ca Co Ex Gm J Rt Th (pvLd ls 3) cs (pc + n) ls st z g) := by
  show (match pvA Co (.lload_n 3) ls st with | some (o, ls', st') => _ | none => _) = _
  simp only [pvA, pvLL]
  show (match (match pvLd ls 3 with | some (.inr (.inl a)) => some (True, ls, vL a :: st) | _ => none) with | some (o, ls', st') => _ | none => _) = _
  generalize pvLd ls 3 = q
  rcases q with _ | (a | a | a | a | a) <;> first | rfl | simp
theorem pvE_aload {k : Nat} {n : Nat} {cs : List (Instr × Nat)} {pc : Nat} {ls : pvL} {st : List pvV} {z : pvM} {g : Nat} : pvB lim sc F Ca Co Ex Gm J Rt Th ((.aload k, n) :: cs) pc ls (st) z g = (pvLA lim sc F Ca Co Ex Gm J Rt Th (pvLd ls k) cs (pc + n) ls st z g) := by
  simp only [pvB, pvA, pvLA]
  generalize pvLd ls k = q
  rcases q with _ | (a | a | a | a | a) <;> first | rfl | simp
theorem pvE_aload_n0 {n : Nat} {cs : List (Instr × Nat)} {pc : Nat} {ls : pvL} {st : List pvV} {z : pvM} {g : Nat} : pvB lim sc F Ca Co Ex Gm J Rt Th ((.aload_n 0, n) :: cs) pc ls (st) z g = (pvLA lim sc F Ca Co Ex Gm J Rt Th (pvLd ls 0) cs (pc + n) ls st z g) := by
  show (match pvA Co (.aload_n 0) ls st with | some (o, ls', st') => _ | none => _) = _
  simp only [pvA, pvLA]
  show (match (match pvLd ls 0 with | some (.inr (.inr (.inl a))) => some (True, ls, vR a :: st) | _ => none) with | some (o, ls', st') => _ | none => _) = _
  generalize pvLd ls 0 = q
  rcases q with _ | (a | a | a | a | a) <;> first | rfl | simp
theorem pvE_aload_n1 {n : Nat} {cs : List (Instr × Nat)} {pc : Nat} {ls : pvL} {st : List pvV} {z : pvM} {g : Nat} : pvB lim sc F Ca Co Ex Gm J Rt Th ((.aload_n 1, n) :: cs) pc ls (st) z g = (pvLA lim sc F Ca Co Ex Gm J Rt Th (pvLd ls 1) cs (pc + n) ls st z g) := by
  show (match pvA Co (.aload_n 1) ls st with | some (o, ls', st') => _ | none => _) = _
  simp only [pvA, pvLA]
  show (match (match pvLd ls 1 with | some (.inr (.inr (.inl a))) => some (True, ls, vR a :: st) | _ => none) with | some (o, ls', st') => _ | none => _) = _
  generalize pvLd ls 1 = q
  rcases q with _ | (a | a | a | a | a) <;> first | rfl | simp
theorem pvE_aload_n2 {n : Nat} {cs : List (Instr × Nat)} {pc : Nat} {ls : pvL} {st : List pvV} {z : pvM} {g : Nat} : pvB lim sc F Ca Co Ex Gm J Rt Th ((.aload_n 2, n) :: cs) pc ls (st) z g = (pvLA lim sc F Ca Co Ex Gm J Rt Th (pvLd ls 2) cs (pc + n) ls st z g) := by
  show (match pvA Co (.aload_n 2) ls st with | some (o, ls', st') => _ | none => _) = _
  simp only [pvA, pvLA]
  show (match (match pvLd ls 2 with | some (.inr (.inr (.inl a))) => some (True, ls, vR a :: st) | _ => none) with | some (o, ls', st') => _ | none => _) = _
  generalize pvLd ls 2 = q
  rcases q with _ | (a | a | a | a | a) <;> first | rfl | simp
theorem pvE_aload_n3 {n : Nat} {cs : List (Instr × Nat)} {pc : Nat} {ls : pvL} {st : List pvV} {z : pvM} {g : Nat} : pvB lim sc F Ca Co Ex Gm J Rt Th ((.aload_n 3, n) :: cs) pc ls (st) z g = (pvLA lim sc F Ca Co Ex Gm J Rt Th (pvLd ls 3) cs (pc + n) ls st z g) := by
  show (match pvA Co (.aload_n 3) ls st with | some (o, ls', st') => _ | none => _) = _
  simp only [pvA, pvLA]
  show (match (match pvLd ls 3 with | some (.inr (.inr (.inl a))) => some (True, ls, vR a :: st) | _ => none) with | some (o, ls', st') => _ | none => _) = _
  generalize pvLd ls 3 = q
  rcases q with _ | (a | a | a | a | a) <;> first | rfl | simp
theorem pvE_dload {k : Nat} {n : Nat} {cs : List (Instr × Nat)} {pc : Nat} {ls : pvL} {st : List pvV} {z : pvM} {g : Nat} : pvB lim sc F Ca Co Ex Gm J Rt Th ((.dload k, n) :: cs) pc ls (st) z g = (pvLD lim sc F Ca Co Ex Gm J Rt Th (pvLd ls k) cs (pc + n) ls st z g) := by
  simp only [pvB, pvA, pvLD]
  generalize pvLd ls k = q
  rcases q with _ | (a | a | a | a | a) <;> first | rfl | simp
theorem pvE_dload_n0 {n : Nat} {cs : List (Instr × Nat)} {pc : Nat} {ls : pvL} {st : List pvV} {z : pvM} {g : Nat} : pvB lim sc F Ca Co Ex Gm J Rt Th ((.dload_n 0, n) :: cs) pc ls (st) z g = (pvLD lim sc F Ca Co Ex Gm J Rt Th (pvLd ls 0) cs (pc + n) ls st z g) := by
  show (match pvA Co (.dload_n 0) ls st with | some (o, ls', st') => _ | none => _) = _
  simp only [pvA, pvLD]
  show (match (match pvLd ls 0 with | some (.inr (.inr (.inr (.inl a)))) => some (True, ls, vD a :: st) | _ => none) with | some (o, ls', st') => _ | none => _) = _
  generalize pvLd ls 0 = q
  rcases q with _ | (a | a | a | a | a) <;> first | rfl | simp
theorem pvE_dload_n1 {n : Nat} {cs : List (Instr × Nat)} {pc : Nat} {ls : pvL} {st : List pvV} {z : pvM} {g : Nat} : pvB lim sc F Ca Co Ex Gm J Rt Th ((.dload_n 1, n) :: cs) pc ls (st) z g = (pvLD lim sc F Ca Co Ex Gm J Rt Th (pvLd ls 1) cs (pc + n) ls st z g) := by
  show (match pvA Co (.dload_n 1) ls st with | some (o, ls', st') => _ | none => _) = _
  simp only [pvA, pvLD]
  show (match (match pvLd ls 1 with | some (.inr (.inr (.inr (.inl a)))) => some (True, ls, vD a :: st) | _ => none) with | some (o, ls', st') => _ | none => _) = _
  generalize pvLd ls 1 = q
  rcases q with _ | (a | a | a | a | a) <;> first | rfl | simp
theorem pvE_dload_n2 {n : Nat} {cs : List (Instr × Nat)} {pc : Nat} {ls : pvL} {st : List pvV} {z : pvM} {g : Nat} : pvB lim sc F Ca Co Ex Gm J Rt Th ((.dload_n 2, n) :: cs) pc ls (st) z g = (pvLD lim sc F Ca Co Ex Gm J Rt Th (pvLd ls 2) cs (pc + n) ls st z g) := by
  show (match pvA Co (.dload_n 2) ls st with | some (o, ls', st') => _ | none => _) = _
  simp only [pvA, pvLD]
  show (match (match pvLd ls 2 with | some (.inr (.inr (.inr (.inl a)))) => some (True, ls, vD a :: st) | _ => none) with | some (o, ls', st') => _ | none => _) = _
  generalize pvLd ls 2 = q
  rcases q with _ | (a | a | a | a | a) <;> first | rfl | simp
theorem pvE_dload_n3 {n : Nat} {cs : List (Instr × Nat)} {pc : Nat} {ls : pvL} {st : List pvV} {z : pvM} {g : Nat} : pvB lim sc F Ca Co Ex Gm J Rt Th ((.dload_n 3, n) :: cs) pc ls (st) z g = (pvLD lim sc F Ca Co Ex Gm J Rt Th (pvLd ls 3) cs (pc + n) ls st z g) := by
  show (match pvA Co (.dload_n 3) ls st with | some (o, ls', st') => _ | none => _) = _
  simp only [pvA, pvLD]
  show (match (match pvLd ls 3 with | some (.inr (.inr (.inr (.inl a)))) => some (True, ls, vD a :: st) | _ => none) with | some (o, ls', st') => _ | none => _) = _
  generalize pvLd ls 3 = q
  rcases q with _ | (a | a | a | a | a) <;> first | rfl | simp
theorem pvE_fload {k : Nat} {n : Nat} {cs : List (Instr × Nat)} {pc : Nat} {ls : pvL} {st : List pvV} {z : pvM} {g : Nat} : pvB lim sc F Ca Co Ex Gm J Rt Th ((.fload k, n) :: cs) pc ls (st) z g = (pvLF lim sc F Ca Co Ex Gm J Rt Th (pvLd ls k) cs (pc + n) ls st z g) := by
  simp only [pvB, pvA, pvLF]
  generalize pvLd ls k = q
  rcases q with _ | (a | a | a | a | a) <;> first | rfl | simp
theorem pvE_istore {k : Nat} {a : Int} {n : Nat} {cs : List (Instr × Nat)} {pc : Nat} {ls : pvL} {st : List pvV} {z : pvM} {g : Nat} : pvB lim sc F Ca Co Ex Gm J Rt Th ((.istore k, n) :: cs) pc ls (vI a :: st) z g = (k < ls.length ∧ pvB lim sc F Ca Co Ex Gm J Rt Th cs (pc + n) (pvS1 ls k (vI a)) (st) z g) := rfl
theorem pvE_istore_n0 {a : Int} {n : Nat} {cs : List (Instr × Nat)} {pc : Nat} {ls : pvL} {st : List pvV} {z : pvM} {g : Nat} : pvB lim sc F Ca Co Ex Gm J Rt Th ((.istore_n 0, n) :: cs) pc ls (vI a :: st) z g = (0 < ls.length ∧ pvB lim sc F Ca Co Ex Gm J Rt Th cs (pc + n) (pvS1 ls 0 (vI a)) (st) z g) := rfl
theorem pvE_istore_n1 {a : Int} {n : Nat} {cs : List (Instr × Nat)} {pc : Nat} {ls : pvL} {st : List pvV} {z : pvM} {g : Nat} : pvB lim sc F Ca Co Ex Gm J Rt Th ((.istore_n 1, n) :: cs) pc ls (vI a :: st) z g = (1 < ls.length ∧ pvB lim sc F Ca Co Ex Gm J Rt Th cs (pc + n) (pvS1 ls 1 (vI a)) (st) z g) := rfl
theorem pvE_istore_n2 {a : Int} {n : Nat} {cs : List (Instr × Nat)} {pc : Nat} {ls : pvL} {st : List pvV} {z : pvM} {g : Nat} : pvB lim sc F Ca Co Ex Gm J Rt Th ((.istore_n 2, n) :: cs) pc ls (vI a :: st) z g = (2 < ls.length ∧ pvB lim sc F Ca Co Ex Gm J Rt Th cs (pc + n) (pvS1 ls 2 (vI a)) (st) z g) := rfl
theorem pvE_istore_n3 {a : Int} {n : Nat} {cs : List (Instr × Nat)} {pc : Nat} {ls : pvL} {st : List pvV} {z : pvM} {g : Nat} : pvB lim sc F Ca Co Ex Gm J Rt Th ((.istore_n 3, n) :: cs) pc ls (vI a :: st) z g = (3 < ls.length ∧ pvB lim sc F Ca Co Ex Gm J Rt Th cs (pc + n) (pvS1 ls 3 (vI a)) (st) z g) := rfl
theorem pvE_astore {k : Nat} {a : Nat} {n : Nat} {cs : List (Instr × Nat)} {pc : Nat} {ls : pvL} {st : List pvV} {z : pvM} {g : Nat} : pvB lim sc F Ca Co Ex Gm J Rt Th ((.astore k, n) :: cs) pc ls (vR a :: st) z g = (k < ls.length ∧ pvB lim sc F Ca Co Ex Gm J Rt Th cs (pc + n) (pvS1 ls k (vR a)) (st) z g) := rfl
theorem pvE_astore_n0 {a : Nat} {n : Nat} {cs : List (Instr × Nat)} {pc : Nat} {ls : pvL} {st : List pvV} {z : pvM} {g : Nat} : pvB lim sc F Ca Co Ex Gm J Rt Th ((.astore_n 0, n) :: cs) pc ls (vR a :: st) z g = (0 < ls.length ∧ pvB lim sc F Ca Co Ex Gm J Rt Th cs (pc + n) (pvS1 ls 0 (vR a)) (st) z g) := rfl
theorem pvE_astore_n1 {a : Nat} {n : Nat} {cs : List (Instr × Nat)} {pc : Nat} {ls : pvL} {st : List pvV} {z : pvM} {g : Nat} : pvB lim sc F Ca Co Ex Gm J Rt Th ((.astore_n 1, n) :: cs) pc ls (vR a :: st) z g = (1 < ls.length ∧ pvB lim sc F Ca Co Ex Gm J Rt Th cs (pc + n) (pvS1 ls 1 (vR a)) (st) z g) := rfl
theorem pvE_astore_n2 {a : Nat} {n : Nat} {cs : List (Instr × Nat)} {pc : Nat} {ls : pvL} {st : List pvV} {z : pvM} {g : Nat} : pvB lim sc F Ca Co Ex Gm J Rt Th ((.astore_n 2, n) :: cs) pc ls (vR a :: st) z g = (2 < ls.length ∧ pvB lim sc F Ca Co Ex Gm J Rt Th cs (pc + n) (pvS1 ls 2 (vR a)) (st) z g) := rfl
theorem pvE_astore_n3 {a : Nat} {n : Nat} {cs : List (Instr × Nat)} {pc : Nat} {ls : pvL} {st : List pvV} {z : pvM} {g : Nat} : pvB lim sc F Ca Co Ex Gm J Rt Th ((.astore_n 3, n) :: cs) pc ls (vR a :: st) z g = (3 < ls.length ∧ pvB lim sc F Ca Co Ex Gm J Rt Th cs (pc + n) (pvS1 ls 3 (vR a)) (st) z g) := rfl
theorem pvE_fstore {k : Nat} {a : UInt32} {n : Nat} {cs : List (Instr × Nat)} {pc : Nat} {ls : pvL} {st : List pvV} {z : pvM} {g : Nat} : pvB lim sc F Ca Co Ex Gm J Rt Th ((.fstore k, n) :: cs) pc ls (vF a :: st) z g = (k < ls.length ∧ pvB lim sc F Ca Co Ex Gm J Rt Th cs (pc + n) (pvS1 ls k (vF a)) (st) z g) := rfl
theorem pvE_lstore {k : Nat} {a : Int} {n : Nat} {cs : List (Instr × Nat)} {pc : Nat} {ls : pvL} {st : List pvV} {z : pvM} {g : Nat} : pvB lim sc F Ca Co Ex Gm J Rt Th ((.lstore k, n) :: cs) pc ls (vL a :: st) z g = (k + 1 < ls.length ∧ pvB lim sc F Ca Co Ex Gm J Rt Th cs (pc + n) (pvS2 ls k (vL a)) (st) z g) := rfl
theorem pvE_lstore_n0 {a : Int} {n : Nat} {cs : List (Instr × Nat)} {pc : Nat} {ls : pvL} {st : List pvV} {z : pvM} {g : Nat} : pvB lim sc F Ca Co Ex Gm J Rt Th ((.lstore_n 0, n) :: cs) pc ls (vL a :: st) z g = (0 + 1 < ls.length ∧ pvB lim sc F Ca Co Ex Gm J Rt Th cs (pc + n) (pvS2 ls 0 (vL a)) (st) z g) := rfl
theorem pvE_lstore_n1 {a : Int} {n : Nat} {cs : List (Instr × Nat)} {pc : Nat} {ls : pvL} {st : List pvV} {z : pvM} {g : Nat} : pvB lim sc F Ca Co Ex Gm J Rt Th ((.lstore_n 1, n) :: cs) pc ls (vL a :: st) z g = (1 + 1 < ls.length ∧ pvB lim sc F Ca Co Ex Gm J Rt Th cs (pc + n) (pvS2 ls 1 (vL a)) (st) z g) := rfl
theorem pvE_lstore_n2 {a : Int} {n : Nat} {cs : List (Instr × Nat)} {pc : Nat} {ls : pvL} {st : List pvV} {z : pvM} {g : Nat} : pvB lim sc F Ca Co Ex Gm J Rt Th ((.lstore_n 2, n) :: cs) pc ls (vL a :: st) z g = (2 + 1 < ls.length ∧ pvB lim sc F Ca Co Ex Gm J Rt Th cs (pc + n) (pvS2 ls 2 (vL a)) (st) z g) := rfl
theorem pvE_lstore_n3 {a : Int} {n : Nat} {cs : List (Instr × Nat)} {pc : Nat} {ls : pvL} {st : List pvV} {z : pvM} {g : Nat} : pvB lim sc F Ca Co Ex Gm J Rt Th ((.lstore_n 3, n) :: cs) pc ls (vL a :: st) z g = (3 + 1 < ls.length ∧ pvB lim sc F Ca Co Ex Gm J Rt Th cs (pc + n) (pvS2 ls 3 (vL a)) (st) z g) := rfl
theorem pvE_dstore {k : Nat} {a : UInt64} {n : Nat} {cs : List (Instr × Nat)} {pc : Nat} {ls : pvL} {st : List pvV} {z : pvM} {g : Nat} : pvB lim sc F Ca Co Ex Gm J Rt Th ((.dstore k, n) :: cs) pc ls (vD a :: st) z g = (k + 1 < ls.length ∧ pvB lim sc F Ca Co Ex Gm J Rt Th cs (pc + n) (pvS2 ls k (vD a)) (st) z g) := rfl
theorem pvE_dstore_n0 {a : UInt64} {n : Nat} {cs : List (Instr × Nat)} {pc : Nat} {ls : pvL} {st : List pvV} {z : pvM} {g : Nat} : pvB lim sc F Ca Co Ex Gm J Rt Th ((.dstore_n 0, n) :: cs) pc ls (vD a :: st) z g = (0 + 1 < ls.length ∧ pvB lim sc F Ca Co Ex Gm J Rt Th cs (pc + n) (pvS2 ls 0 (vD a)) (st) z g) := rfl
theorem pvE_dstore_n1 {a : UInt64} {n : Nat} {cs : List (Instr × Nat)} {pc : Nat} {ls : pvL} {st : List pvV} {z : pvM} {g : Nat} : pvB lim sc F Ca Co Ex Gm J Rt Th ((.dstore_n 1, n) :: cs) pc ls (vD a :: st) z g = (1 + 1 < ls.length ∧ pvB lim sc F Ca Co Ex Gm J Rt Th cs (pc + n) (pvS2 ls 1 (vD a)) (st) z g) := rfl
theorem pvE_dstore_n2 {a : UInt64} {n : Nat} {cs : List (Instr × Nat)} {pc : Nat} {ls : pvL} {st : List pvV} {z : pvM} {g : Nat} : pvB lim sc F Ca Co Ex Gm J Rt Th ((.dstore_n 2, n) :: cs) pc ls (vD a :: st) z g = (2 + 1 < ls.length ∧ pvB lim sc F Ca Co Ex Gm J Rt Th cs (pc + n) (pvS2 ls 2 (vD a)) (st) z g) := rfl
theorem pvE_dstore_n3 {a : UInt64} {n : Nat} {cs : List (Instr × Nat)} {pc : Nat} {ls : pvL} {st : List pvV} {z : pvM} {g : Nat} : pvB lim sc F Ca Co Ex Gm J Rt Th ((.dstore_n 3, n) :: cs) pc ls (vD a :: st) z g = (3 + 1 < ls.length ∧ pvB lim sc F Ca Co Ex Gm J Rt Th cs (pc + n) (pvS2 ls 3 (vD a)) (st) z g) := rfl
theorem pvE_iinc {k : Nat} {c : Int} {n : Nat} {cs : List (Instr × Nat)} {pc : Nat} {ls : pvL} {st : List pvV} {z : pvM} {g : Nat} : pvB lim sc F Ca Co Ex Gm J Rt Th ((.iinc k c, n) :: cs) pc ls (st) z g = (pvIc lim sc F Ca Co Ex Gm J Rt Th (pvLd ls k) k c cs (pc + n) ls st z g) := by
  simp only [pvB, pvA, pvIc]
  generalize pvLd ls k = q
  rcases q with _ | (a | a | a | a | a) <;> rfl
theorem pvE_iadd {a b : Int} {n : Nat} {cs : List (Instr × Nat)} {pc : Nat} {ls : pvL} {st : List pvV} {z : pvM} {g : Nat} : pvB lim sc F Ca Co Ex Gm J Rt Th ((.iadd, n) :: cs) pc ls (vI b :: vI a :: st) z g = (pvR (a + b) ∧ pvB lim sc F Ca Co Ex Gm J Rt Th cs (pc + n) (ls) (vI (a + b) :: st) z g) := rfl
theorem pvE_isub {a b : Int} {n : Nat} {cs : List (Instr × Nat)} {pc : Nat} {ls : pvL} {st : List pvV} {z : pvM} {g : Nat} : pvB lim sc F Ca Co Ex Gm J Rt Th ((.isub, n) :: cs) pc ls (vI b :: vI a :: st) z g = (pvR (a - b) ∧ pvB lim sc F Ca Co Ex Gm J Rt Th cs (pc + n) (ls) (vI (a - b) :: st) z g) := rfl
theorem pvE_imul {a b : Int} {n : Nat} {cs : List (Instr × Nat)} {pc : Nat} {ls : pvL} {st : List pvV} {z : pvM} {g : Nat} : pvB lim sc F Ca Co Ex Gm J Rt Th ((.imul, n) :: cs) pc ls (vI b :: vI a :: st) z g = (pvR (a * b) ∧ pvB lim sc F Ca Co Ex Gm J Rt Th cs (pc + n) (ls) (vI (a * b) :: st) z g) := rfl
theorem pvE_idiv {a b : Int} {n : Nat} {cs : List (Instr × Nat)} {pc : Nat} {ls : pvL} {st : List pvV} {z : pvM} {g : Nat} : pvB lim sc F Ca Co Ex Gm J Rt Th ((.idiv, n) :: cs) pc ls (vI b :: vI a :: st) z g = ((0 ≤ a ∧ 0 < b) ∧ pvB lim sc F Ca Co Ex Gm J Rt Th cs (pc + n) (ls) (vI (a / b) :: st) z g) := rfl
theorem pvE_irem {a b : Int} {n : Nat} {cs : List (Instr × Nat)} {pc : Nat} {ls : pvL} {st : List pvV} {z : pvM} {g : Nat} : pvB lim sc F Ca Co Ex Gm J Rt Th ((.irem, n) :: cs) pc ls (vI b :: vI a :: st) z g = ((0 ≤ a ∧ 0 < b) ∧ pvB lim sc F Ca Co Ex Gm J Rt Th cs (pc + n) (ls) (vI (a % b) :: st) z g) := rfl
theorem pvE_iand {a b : Int} {n : Nat} {cs : List (Instr × Nat)} {pc : Nat} {ls : pvL} {st : List pvV} {z : pvM} {g : Nat} : pvB lim sc F Ca Co Ex Gm J Rt Th ((.iand, n) :: cs) pc ls (vI b :: vI a :: st) z g = (True ∧ pvB lim sc F Ca Co Ex Gm J Rt Th cs (pc + n) (ls) (vI (pvAnd a b) :: st) z g) := rfl
theorem pvE_ior {a b : Int} {n : Nat} {cs : List (Instr × Nat)} {pc : Nat} {ls : pvL} {st : List pvV} {z : pvM} {g : Nat} : pvB lim sc F Ca Co Ex Gm J Rt Th ((.ior, n) :: cs) pc ls (vI b :: vI a :: st) z g = (True ∧ pvB lim sc F Ca Co Ex Gm J Rt Th cs (pc + n) (ls) (vI (pvOr a b) :: st) z g) := rfl
theorem pvE_ixor {a b : Int} {n : Nat} {cs : List (Instr × Nat)} {pc : Nat} {ls : pvL} {st : List pvV} {z : pvM} {g : Nat} : pvB lim sc F Ca Co Ex Gm J Rt Th ((.ixor, n) :: cs) pc ls (vI b :: vI a :: st) z g = (True ∧ pvB lim sc F Ca Co Ex Gm J Rt Th cs (pc + n) (ls) (vI (pvXor a b) :: st) z g) := rfl
theorem pvE_ishl {a b : Int} {n : Nat} {cs : List (Instr × Nat)} {pc : Nat} {ls : pvL} {st : List pvV} {z : pvM} {g : Nat} : pvB lim sc F Ca Co Ex Gm J Rt Th ((.ishl, n) :: cs) pc ls (vI b :: vI a :: st) z g = (True ∧ pvB lim sc F Ca Co Ex Gm J Rt Th cs (pc + n) (ls) (vI (pvShl a b) :: st) z g) := rfl
theorem pvE_ishr {a b : Int} {n : Nat} {cs : List (Instr × Nat)} {pc : Nat} {ls : pvL} {st : List pvV} {z : pvM} {g : Nat} : pvB lim sc F Ca Co Ex Gm J Rt Th ((.ishr, n) :: cs) pc ls (vI b :: vI a :: st) z g = (True ∧ pvB lim sc F Ca Co Ex Gm J Rt Th cs (pc + n) (ls) (vI (pvShr a b) :: st) z g) := rfl
theorem pvE_iushr {a b : Int} {n : Nat} {cs : List (Instr × Nat)} {pc : Nat} {ls : pvL} {st : List pvV} {z : pvM} {g : Nat} : pvB lim sc F Ca Co Ex Gm J Rt Th ((.iushr, n) :: cs) pc ls (vI b :: vI a :: st) z g = (True ∧ pvB lim sc F Ca Co Ex Gm J Rt Th cs (pc + n) (ls) (vI (pvUshr a b) :: st) z g) := rfl
theorem pvE_ineg {a : Int} {n : Nat} {cs : List (Instr × Nat)} {pc : Nat} {ls : pvL} {st : List pvV} {z : pvM} {g : Nat} : pvB lim sc F Ca Co Ex Gm J Rt Th ((.ineg, n) :: cs) pc ls (vI a :: st) z g = (pvR (-a) ∧ pvB lim sc F Ca Co Ex Gm J Rt Th cs (pc + n) (ls) (vI (-a) :: st) z g) := rfl
theorem pvE_ladd {a b : Int} {n : Nat} {cs : List (Instr × Nat)} {pc : Nat} {ls : pvL} {st : List pvV} {z : pvM} {g : Nat} : pvB lim sc F Ca Co Ex Gm J Rt Th ((.ladd, n) :: cs) pc ls (vL b :: vL a :: st) z g = (True ∧ pvB lim sc F Ca Co Ex Gm J Rt Th cs (pc + n) (ls) (vL (a + b) :: st) z g) := rfl
theorem pvE_lmul {a b : Int} {n : Nat} {cs : List (Instr × Nat)} {pc : Nat} {ls : pvL} {st : List pvV} {z : pvM} {g : Nat} : pvB lim sc F Ca Co Ex Gm J Rt Th ((.lmul, n) :: cs) pc ls (vL b :: vL a :: st) z g = (True ∧ pvB lim sc F Ca Co Ex Gm J Rt Th cs (pc + n) (ls) (vL (a * b) :: st) z g) := rfl
theorem pvE_lcmp {a b : Int} {n : Nat} {cs : List (Instr × Nat)} {pc : Nat} {ls : pvL} {st : List pvV} {z : pvM} {g : Nat} : pvB lim sc F Ca Co Ex Gm J Rt Th ((.lcmp, n) :: cs) pc ls (vL b :: vL a :: st) z g = ((pvRL a ∧ pvRL b) ∧ pvB lim sc F Ca Co Ex Gm J Rt Th cs (pc + n) (ls) (vI (if b < a then 1 else if a = b then 0 else -1) :: st) z g) := rfl
theorem pvE_i2l {a : Int} {n : Nat} {cs : List (Instr × Nat)} {pc : Nat} {ls : pvL} {st : List pvV} {z : pvM} {g : Nat} : pvB lim sc F Ca Co Ex Gm J Rt Th ((.i2l, n) :: cs) pc ls (vI a :: st) z g = (True ∧ pvB lim sc F Ca Co Ex Gm J Rt Th cs (pc + n) (ls) (vL a :: st) z g) := rfl
theorem pvE_l2d {a : Int} {n : Nat} {cs : List (Instr × Nat)} {pc : Nat} {ls : pvL} {st : List pvV} {z : pvM} {g : Nat} : pvB lim sc F Ca Co Ex Gm J Rt Th ((.l2d, n) :: cs) pc ls (vL a :: st) z g = (True ∧ pvB lim sc F Ca Co Ex Gm J Rt Th cs (pc + n) (ls) (vD (FP.l2d (Int64.ofInt a)) :: st) z g) := rfl
theorem pvE_i2f {a : Int} {n : Nat} {cs : List (Instr × Nat)} {pc : Nat} {ls : pvL} {st : List pvV} {z : pvM} {g : Nat} : pvB lim sc F Ca Co Ex Gm J Rt Th ((.i2f, n) :: cs) pc ls (vI a :: st) z g = (True ∧ pvB lim sc F Ca Co Ex Gm J Rt Th cs (pc + n) (ls) (vF (FP.i2f (Int32.ofInt a)) :: st) z g) := rfl
theorem pvE_ddiv {a b : UInt64} {n : Nat} {cs : List (Instr × Nat)} {pc : Nat} {ls : pvL} {st : List pvV} {z : pvM} {g : Nat} : pvB lim sc F Ca Co Ex Gm J Rt Th ((.ddiv, n) :: cs) pc ls (vD b :: vD a :: st) z g = (vf_n64 (FP.ddiv a b) ∧ pvB lim sc F Ca Co Ex Gm J Rt Th cs (pc + n) (ls) (vD (FP.ddiv a b) :: st) z g) := rfl
theorem pvE_fdiv {a b : UInt32} {n : Nat} {cs : List (Instr × Nat)} {pc : Nat} {ls : pvL} {st : List pvV} {z : pvM} {g : Nat} : pvB lim sc F Ca Co Ex Gm J Rt Th ((.fdiv, n) :: cs) pc ls (vF b :: vF a :: st) z g = (vf_n32 (FP.fdiv a b) ∧ pvB lim sc F Ca Co Ex Gm J Rt Th cs (pc + n) (ls) (vF (FP.fdiv a b) :: st) z g) := rfl
theorem pvE_f2d {a : UInt32} {n : Nat} {cs : List (Instr × Nat)} {pc : Nat} {ls : pvL} {st : List pvV} {z : pvM} {g : Nat} : pvB lim sc F Ca Co Ex Gm J Rt Th ((.f2d, n) :: cs) pc ls (vF a :: st) z g = (vf_n64 (FP.f2d a) ∧ pvB lim sc F Ca Co Ex Gm J Rt Th cs (pc + n) (ls) (vD (FP.f2d a) :: st) z g) := rfl
theorem pvE_dcmp {a b : UInt64} {op : CmpOp} {n : Nat} {cs : List (Instr × Nat)} {pc : Nat} {ls : pvL} {st : List pvV} {z : pvM} {g : Nat} : pvB lim sc F Ca Co Ex Gm J Rt Th ((.dcmp op, n) :: cs) pc ls (vD b :: vD a :: st) z g = (True ∧ pvB lim sc F Ca Co Ex Gm J Rt Th cs (pc + n) (ls) (vI (Op.cmpValue (FP.dcmp a b) op).toInt :: st) z g) := rfl
theorem pvE_fcmp {a b : UInt32} {op : CmpOp} {n : Nat} {cs : List (Instr × Nat)} {pc : Nat} {ls : pvL} {st : List pvV} {z : pvM} {g : Nat} : pvB lim sc F Ca Co Ex Gm J Rt Th ((.fcmp op, n) :: cs) pc ls (vF b :: vF a :: st) z g = (True ∧ pvB lim sc F Ca Co Ex Gm J Rt Th cs (pc + n) (ls) (vI (Op.cmpValue (FP.fcmp a b) op).toInt :: st) z g) := rfl
theorem pvE_dconst0 {n : Nat} {cs : List (Instr × Nat)} {pc : Nat} {ls : pvL} {st : List pvV} {z : pvM} {g : Nat} : pvB lim sc F Ca Co Ex Gm J Rt Th ((.dconst 0, n) :: cs) pc ls (st) z g = (True ∧ pvB lim sc F Ca Co Ex Gm J Rt Th cs (pc + n) (ls) (vD FP.dconst0 :: st) z g) := rfl
theorem pvE_fconst0 {n : Nat} {cs : List (Instr × Nat)} {pc : Nat} {ls : pvL} {st : List pvV} {z : pvM} {g : Nat} : pvB lim sc F Ca Co Ex Gm J Rt Th ((.fconst 0, n) :: cs) pc ls (st) z g = (True ∧ pvB lim sc F Ca Co Ex Gm J Rt Th cs (pc + n) (ls) (vF FP.fconst0 :: st) z g) := rfl
theorem pvE_dup_i {a : Int} {n : Nat} {cs : List (Instr × Nat)} {pc : Nat} {ls : pvL} {st : List pvV} {z : pvM} {g : Nat} : pvB lim sc F Ca Co Ex Gm J Rt Th ((.dup, n) :: cs) pc ls (vI a :: st) z g = (True ∧ pvB lim sc F Ca Co Ex Gm J Rt Th cs (pc + n) (ls) (vI a :: vI a :: st) z g) := rfl
theorem pvE_pop_i {a : Int} {n : Nat} {cs : List (Instr × Nat)} {pc : Nat} {ls : pvL} {st : List pvV} {z : pvM} {g : Nat} : pvB lim sc F Ca Co Ex Gm J Rt Th ((.pop, n) :: cs) pc ls (vI a :: st) z g = (True ∧ pvB lim sc F Ca Co Ex Gm J Rt Th cs (pc + n) (ls) (st) z g) := rfl
theorem pvE_dup_r {a : Nat} {n : Nat} {cs : List (Instr × Nat)} {pc : Nat} {ls : pvL} {st : List pvV} {z : pvM} {g : Nat} : pvB lim sc F Ca Co Ex Gm J Rt Th ((.dup, n) :: cs) pc ls (vR a :: st) z g = (True ∧ pvB lim sc F Ca Co Ex Gm J Rt Th cs (pc + n) (ls) (vR a :: vR a :: st) z g) := rfl
theorem pvE_pop_r {a : Nat} {n : Nat} {cs : List (Instr × Nat)} {pc : Nat} {ls : pvL} {st : List pvV} {z : pvM} {g : Nat} : pvB lim sc F Ca Co Ex Gm J Rt Th ((.pop, n) :: cs) pc ls (vR a :: st) z g = (True ∧ pvB lim sc F Ca Co Ex Gm J Rt Th cs (pc + n) (ls) (st) z g) := rfl
theorem pvE_dup2 {a : Int} {b : Nat} {n : Nat} {cs : List (Instr × Nat)} {pc : Nat} {ls : pvL} {st : List pvV} {z : pvM} {g : Nat} : pvB lim sc F Ca Co Ex Gm J Rt Th ((.dup2, n) :: cs) pc ls (vI a :: vR b :: st) z g = (True ∧ pvB lim sc F Ca Co Ex Gm J Rt Th cs (pc + n) (ls) (vI a :: vR b :: vI a :: vR b :: st) z g) := rfl
theorem pvE_getfield {ix id : Nat} {n : Nat} {cs : List (Instr × Nat)} {pc : Nat} {ls : pvL} {st : List pvV} {z : pvM} {g : Nat} : pvB lim sc F Ca Co Ex Gm J Rt Th ((.getfield ix, n) :: cs) pc ls (vR id :: st) z g = (pvGf lim sc F Ca Co Ex Gm J Rt Th (F ix) id cs (pc + n) ls st z g) := by
  simp only [pvB, pvA, pvHp, pvGf]
  generalize F ix = q
  rcases q with _ | ⟨ci, k, (_ | _ | _ | kd)⟩ <;> rfl
theorem pvE_putfield {ix id : Nat} {a : Int} {n : Nat} {cs : List (Instr × Nat)} {pc : Nat} {ls : pvL} {st : List pvV} {z : pvM} {g : Nat} : pvB lim sc F Ca Co Ex Gm J Rt Th ((.putfield ix, n) :: cs) pc ls (vI a :: vR id :: st) z g = (pvPf lim sc F Ca Co Ex Gm J Rt Th (F ix) id a cs (pc + n) ls st z g) := by
  simp only [pvB, pvA, pvHp, pvPf]
  generalize F ix = q
  rcases q with _ | ⟨ci, k, (_ | _ | _ | kd)⟩ <;> rfl
theorem pvE_iaload {a : Int} {id : Nat} {n : Nat} {cs : List (Instr × Nat)} {pc : Nat} {ls : pvL} {st : List pvV} {z : pvM} {g : Nat} : pvB lim sc F Ca Co Ex Gm J Rt Th ((.iaload, n) :: cs) pc ls (vI a :: vR id :: st) z g = ((id = 60 → (lim 60 ∧ 0 ≤ a ∧ a < sc.1) ∧ pvB lim sc F Ca Co Ex Gm J Rt Th cs (pc + n) (ls) (vI (sc.2 a.toNat) :: st) z g) ∧ (¬ id = 60 → (lim id ∧ 0 ≤ a ∧ a < pvAI id) ∧ pvB lim sc F Ca Co Ex Gm J Rt Th cs (pc + n) (ls) (vI (z.1 id a.toNat) :: st) z g)) := by
  by_cases h : id = 60 <;> simp [pvB, pvA, pvHp, h]
theorem pvE_arraylength {id : Nat} {n : Nat} {cs : List (Instr × Nat)} {pc : Nat} {ls : pvL} {st : List pvV} {z : pvM} {g : Nat} : pvB lim sc F Ca Co Ex Gm J Rt Th ((.arraylength, n) :: cs) pc ls (vR id :: st) z g = ((id = 60 → lim 60 ∧ pvB lim sc F Ca Co Ex Gm J Rt Th cs (pc + n) (ls) (vI sc.1 :: st) z g) ∧ (¬ id = 60 → (lim id ∧ (pvAn id ≠ 0 ∨ 64 ≤ id) ∧ (64 ≤ id → (pvAn id : Int) ≤ 2147483647)) ∧ pvB lim sc F Ca Co Ex Gm J Rt Th cs (pc + n) (ls) (vI (pvAn id) :: st) z g)) := by
  by_cases h : id = 60 <;> simp [pvB, pvA, pvHp, h]
theorem pvE_laload {a : Int} {id : Nat} {n : Nat} {cs : List (Instr × Nat)} {pc : Nat} {ls : pvL} {st : List pvV} {z : pvM} {g : Nat} : pvB lim sc F Ca Co Ex Gm J Rt Th ((.laload, n) :: cs) pc ls (vI a :: vR id :: st) z g = ((lim id ∧ 0 ≤ a ∧ a < pvAL id) ∧ pvB lim sc F Ca Co Ex Gm J Rt Th cs (pc + n) (ls) (vL (z.2.1 id a.toNat) :: st) z g) := rfl
theorem pvE_iastore {a x : Int} {id : Nat} {n : Nat} {cs : List (Instr × Nat)} {pc : Nat} {ls : pvL} {st : List pvV} {z : pvM} {g : Nat} : pvB lim sc F Ca Co Ex Gm J Rt Th ((.iastore, n) :: cs) pc ls (vI x :: vI a :: vR id :: st) z g = ((lim id ∧ 0 ≤ a ∧ a < pvAI id) ∧ pvB lim sc F Ca Co Ex Gm J Rt Th cs (pc + n) (ls) (st) (pvUp z.1 id a.toNat x, z.2) g) := rfl
theorem pvE_lastore {a x : Int} {id : Nat} {n : Nat} {cs : List (Instr × Nat)} {pc : Nat} {ls : pvL} {st : List pvV} {z : pvM} {g : Nat} : pvB lim sc F Ca Co Ex Gm J Rt Th ((.lastore, n) :: cs) pc ls (vL x :: vI a :: vR id :: st) z g = ((lim id ∧ 0 ≤ a ∧ a < pvAL id) ∧ pvB lim sc F Ca Co Ex Gm J Rt Th cs (pc + n) (ls) (st) (z.1, pvUp z.2.1 id a.toNat x, z.2.2) g) := rfl
theorem pvE_if_eq {a off : Int} {n : Nat} {cs : List (Instr × Nat)} {pc : Nat} {ls : pvL} {st : List pvV} {z : pvM} {g : Nat} : pvB lim sc F Ca Co Ex Gm J Rt Th ((.ifCond .eq off, n) :: cs) pc ls (vI a :: st) z g = (((a = 0) → pvGo J pc off ls st z g) ∧ (¬ (a = 0) → pvB lim sc F Ca Co Ex Gm J Rt Th cs (pc + n) (ls) (st) z g)) := rfl
theorem pvE_if_ne {a off : Int} {n : Nat} {cs : List (Instr × Nat)} {pc : Nat} {ls : pvL} {st : List pvV} {z : pvM} {g : Nat} : pvB lim sc F Ca Co Ex Gm J Rt Th ((.ifCond .ne off, n) :: cs) pc ls (vI a :: st) z g = (((a ≠ 0) → pvGo J pc off ls st z g) ∧ (¬ (a ≠ 0) → pvB lim sc F Ca Co Ex Gm J Rt Th cs (pc + n) (ls) (st) z g)) := rfl
theorem pvE_if_lt {a off : Int} {n : Nat} {cs : List (Instr × Nat)} {pc : Nat} {ls : pvL} {st : List pvV} {z : pvM} {g : Nat} : pvB lim sc F Ca Co Ex Gm J Rt Th ((.ifCond .lt off, n) :: cs) pc ls (vI a :: st) z g = (((a < 0) → pvGo J pc off ls st z g) ∧ (¬ (a < 0) → pvB lim sc F Ca Co Ex Gm J Rt Th cs (pc + n) (ls) (st) z g)) := rfl
theorem pvE_if_ge {a off : Int} {n : Nat} {cs : List (Instr × Nat)} {pc : Nat} {ls : pvL} {st : List pvV} {z : pvM} {g : Nat} : pvB lim sc F Ca Co Ex Gm J Rt Th ((.ifCond .ge off, n) :: cs) pc ls (vI a :: st) z g = (((0 ≤ a) → pvGo J pc off ls st z g) ∧ (¬ (0 ≤ a) → pvB lim sc F Ca Co Ex Gm J Rt Th cs (pc + n) (ls) (st) z g)) := rfl
theorem pvE_if_gt {a off : Int} {n : Nat} {cs : List (Instr × Nat)} {pc : Nat} {ls : pvL} {st : List pvV} {z : pvM} {g : Nat} : pvB lim sc F Ca Co Ex Gm J Rt Th ((.ifCond .gt off, n) :: cs) pc ls (vI a :: st) z g = (((0 < a) → pvGo J pc off ls st z g) ∧ (¬ (0 < a) → pvB lim sc F Ca Co Ex Gm J Rt Th cs (pc + n) (ls) (st) z g)) := rfl
theorem pvE_if_le {a off : Int} {n : Nat} {cs : List (Instr × Nat)} {pc : Nat} {ls : pvL} {st : List pvV} {z : pvM} {g : Nat} : pvB lim sc F Ca Co Ex Gm J Rt Th ((.ifCond .le off, n) :: cs) pc ls (vI a :: st) z g = (((a ≤ 0) → pvGo J pc off ls st z g) ∧ (¬ (a ≤ 0) → pvB lim sc F Ca Co Ex Gm J Rt Th cs (pc + n) (ls) (st) z g)) := rfl
theorem pvE_icmp_eq {a b off : Int} {n : Nat} {cs : List (Instr × Nat)} {pc : Nat} {ls : pvL} {st : List pvV} {z : pvM} {g : Nat} : pvB lim sc F Ca Co Ex Gm J Rt Th ((.if_icmp .eq off, n) :: cs) pc ls (vI b :: vI a :: st) z g = (((a = b) → pvGo J pc off ls st z g) ∧ (¬ (a = b) → pvB lim sc F Ca Co Ex Gm J Rt Th cs (pc + n) (ls) (st) z g)) := rfl
theorem pvE_icmp_ne {a b off : Int} {n : Nat} {cs : List (Instr × Nat)} {pc : Nat} {ls : pvL} {st : List pvV} {z : pvM} {g : Nat} : pvB lim sc F Ca Co Ex Gm J Rt Th ((.if_icmp .ne off, n) :: cs) pc ls (vI b :: vI a :: st) z g = (((a ≠ b) → pvGo J pc off ls st z g) ∧ (¬ (a ≠ b) → pvB lim sc F Ca Co Ex Gm J Rt Th cs (pc + n) (ls) (st) z g)) := rfl
theorem pvE_icmp_lt {a b off : Int} {n : Nat} {cs : List (Instr × Nat)} {pc : Nat} {ls : pvL} {st : List pvV} {z : pvM} {g : Nat} : pvB lim sc F Ca Co Ex Gm J Rt Th ((.if_icmp .lt off, n) :: cs) pc ls (vI b :: vI a :: st) z g = (((a < b) → pvGo J pc off ls st z g) ∧ (¬ (a < b) → pvB lim sc F Ca Co Ex Gm J Rt Th cs (pc + n) (ls) (st) z g)) := rfl
theorem pvE_icmp_ge {a b off : Int} {n : Nat} {cs : List (Instr × Nat)} {pc : Nat} {ls : pvL} {st : List pvV} {z : pvM} {g : Nat} : pvB lim sc F Ca Co Ex Gm J Rt Th ((.if_icmp .ge off, n) :: cs) pc ls (vI b :: vI a :: st) z g = (((b ≤ a) → pvGo J pc off ls st z g) ∧ (¬ (b ≤ a) → pvB lim sc F Ca Co Ex Gm J Rt Th cs (pc + n) (ls) (st) z g)) := rfl
theorem pvE_icmp_gt {a b off : Int} {n : Nat} {cs : List (Instr × Nat)} {pc : Nat} {ls : pvL} {st : List pvV} {z : pvM} {g : Nat} : pvB lim sc F Ca Co Ex Gm J Rt Th ((.if_icmp .gt off, n) :: cs) pc ls (vI b :: vI a :: st) z g = (((b < a) → pvGo J pc off ls st z g) ∧ (¬ (b < a) → pvB lim sc F Ca Co Ex Gm J Rt Th cs (pc + n) (ls) (st) z g)) := rfl
theorem pvE_icmp_le {a b off : Int} {n : Nat} {cs : List (Instr × Nat)} {pc : Nat} {ls : pvL} {st : List pvV} {z : pvM} {g : Nat} : pvB lim sc F Ca Co Ex Gm J Rt Th ((.if_icmp .le off, n) :: cs) pc ls (vI b :: vI a :: st) z g = (((a ≤ b) → pvGo J pc off ls st z g) ∧ (¬ (a ≤ b) → pvB lim sc F Ca Co Ex Gm J Rt Th cs (pc + n) (ls) (st) z g)) := rfl
theorem pvE_ifnull {a : Nat} {off : Int} {n : Nat} {cs : List (Instr × Nat)} {pc : Nat} {ls : pvL} {st : List pvV} {z : pvM} {g : Nat} : pvB lim sc F Ca Co Ex Gm J Rt Th ((.ifnull off, n) :: cs) pc ls (vR a :: st) z g = ((False → pvGo J pc off ls st z g) ∧ (¬ False → pvB lim sc F Ca Co Ex Gm J Rt Th cs (pc + n) (ls) (st) z g)) := rfl
theorem pvE_ifnonnull {a : Nat} {off : Int} {n : Nat} {cs : List (Instr × Nat)} {pc : Nat} {ls : pvL} {st : List pvV} {z : pvM} {g : Nat} : pvB lim sc F Ca Co Ex Gm J Rt Th ((.ifnonnull off, n) :: cs) pc ls (vR a :: st) z g = ((True → pvGo J pc off ls st z g) ∧ (¬ True → pvB lim sc F Ca Co Ex Gm J Rt Th cs (pc + n) (ls) (st) z g)) := rfl
theorem pvE_ldc2_w_d {ix : Nat} {a : UInt64} (h0 : Co ix = some (.inr (.inr (.inr (.inl a))))) {n : Nat} {cs : List (Instr × Nat)} {pc : Nat} {ls : pvL} {st : List pvV} {z : pvM} {g : Nat} : pvB lim sc F Ca Co Ex Gm J Rt Th ((.ldc2_w ix, n) :: cs) pc ls (st) z g = (True ∧ pvB lim sc F Ca Co Ex Gm J Rt Th cs (pc + n) (ls) (vD a :: st) z g) := by
  simp only [pvB, pvA, h0]
theorem pvE_goto {off : Int} {n : Nat} {cs : List (Instr × Nat)} {pc : Nat} {ls : pvL} {st : List pvV} {z : pvM} {g : Nat} : pvB lim sc F Ca Co Ex Gm J Rt Th ((.goto off, n) :: cs) pc ls (st) z g = (pvGo J pc off ls st z g) := rfl
theorem pvE_tableswitch {x d lo hi : Int} {offs : Array Int} {n : Nat} {cs : List (Instr × Nat)} {pc : Nat} {ls : pvL} {st : List pvV} {z : pvM} {g : Nat} : pvB lim sc F Ca Co Ex Gm J Rt Th ((.tableswitch d lo hi offs, n) :: cs) pc ls (vI x :: st) z g = (hi = lo + offs.size - 1 ∧ (x < lo ∨ hi < x → pvGo J pc d ls st z g) ∧ pvSw J pc x ls st z g offs.toList lo) := rfl
theorem pvE_invokevirtual {ix : Nat} {n : Nat} {cs : List (Instr × Nat)} {pc : Nat} {ls : pvL} {st : List pvV} {z : pvM} {g : Nat} : pvB lim sc F Ca Co Ex Gm J Rt Th ((.invokevirtual ix, n) :: cs) pc ls (st) z g = (pvC1 lim sc F Ca Co Ex Gm J Rt Th (Ca ix) false cs pc ls st z g) := by
  rw [← pvC1_e]
  rfl
theorem pvE_invokestatic {ix : Nat} (h0 : Ex ix = none) {n : Nat} {cs : List (Instr × Nat)} {pc : Nat} {ls : pvL} {st : List pvV} {z : pvM} {g : Nat} : pvB lim sc F Ca Co Ex Gm J Rt Th ((.invokestatic ix, n) :: cs) pc ls (st) z g = (pvC1 lim sc F Ca Co Ex Gm J Rt Th (Ca ix) true cs pc ls st z g) := by
  rw [← pvC1_e]
  simp [pvB, pvA, pvHp, pvTs, h0]
theorem pvE_copy_i {ix a b : Nat} {m sp dp : Int} (h0 : Ex ix = some 100) {n : Nat} {cs : List (Instr × Nat)} {pc : Nat} {ls : pvL} {st : List pvV} {z : pvM} {g : Nat} : pvB lim sc F Ca Co Ex Gm J Rt Th ((.invokestatic ix, n) :: cs) pc ls (vI m :: vI dp :: vR b :: vI sp :: vR a :: st) z g = ((lim a ∧ lim b ∧ 0 ≤ sp ∧ 0 ≤ dp ∧ 0 ≤ m ∧ sp + m ≤ pvAI a ∧ dp + m ≤ pvAI b ∧ 0 < pvAI a ∧ 0 < pvAI b ∧ pvCs st ≤ 8) ∧ pvB lim sc F Ca Co Ex Gm J Rt Th cs (pc + n) (ls) (st) (pvSt z.1 b (fun k => if dp.toNat ≤ k ∧ k < dp.toNat + m.toNat then z.1 a (sp.toNat + (k - dp.toNat)) else z.1 b k), z.2) g) := by
  simp [pvB, pvA, pvHp, h0]
theorem pvE_copy_l {ix a b : Nat} {m sp dp : Int} (h0 : Ex ix = some 101) {n : Nat} {cs : List (Instr × Nat)} {pc : Nat} {ls : pvL} {st : List pvV} {z : pvM} {g : Nat} : pvB lim sc F Ca Co Ex Gm J Rt Th ((.invokestatic ix, n) :: cs) pc ls (vI m :: vI dp :: vR b :: vI sp :: vR a :: st) z g = ((lim a ∧ lim b ∧ 0 ≤ sp ∧ 0 ≤ dp ∧ 0 ≤ m ∧ sp + m ≤ pvAL a ∧ dp + m ≤ pvAL b ∧ 0 < pvAL a ∧ 0 < pvAL b ∧ pvCs st ≤ 8) ∧ pvB lim sc F Ca Co Ex Gm J Rt Th cs (pc + n) (ls) (st) (z.1, pvSt z.2.1 b (fun k => if dp.toNat ≤ k ∧ k < dp.toNat + m.toNat then z.2.1 a (sp.toNat + (k - dp.toNat)) else z.2.1 b k), z.2.2) g) := by
  simp [pvB, pvA, pvHp, h0]
theorem pvE_ireturn {a : Int} {n : Nat} {cs : List (Instr × Nat)} {pc : Nat} {ls : pvL} {st : List pvV} {z : pvM} {g : Nat} : pvB lim sc F Ca Co Ex Gm J Rt Th ((.ireturn, n) :: cs) pc ls ([vI a]) z g = (Rt (some (vI a)) z g) := rfl
theorem pvE_lreturn {a : Int} {n : Nat} {cs : List (Instr × Nat)} {pc : Nat} {ls : pvL} {st : List pvV} {z : pvM} {g : Nat} : pvB lim sc F Ca Co Ex Gm J Rt Th ((.lreturn, n) :: cs) pc ls ([vL a]) z g = (Rt (some (vL a)) z g) := rfl
theorem pvE_areturn {a : Nat} {n : Nat} {cs : List (Instr × Nat)} {pc : Nat} {ls : pvL} {st : List pvV} {z : pvM} {g : Nat} : pvB lim sc F Ca Co Ex Gm J Rt Th ((.areturn, n) :: cs) pc ls ([vR a]) z g = (Rt (some (vR a)) z g) := rfl
theorem pvE_dreturn {a : UInt64} {n : Nat} {cs : List (Instr × Nat)} {pc : Nat} {ls : pvL} {st : List pvV} {z : pvM} {g : Nat} : pvB lim sc F Ca Co Ex Gm J Rt Th ((.dreturn, n) :: cs) pc ls ([vD a]) z g = (Rt (some (vD a)) z g) := rfl
theorem pvE_freturn {a : UInt32} {n : Nat} {cs : List (Instr × Nat)} {pc : Nat} {ls : pvL} {st : List pvV} {z : pvM} {g : Nat} : pvB lim sc F Ca Co Ex Gm J Rt Th ((.freturn, n) :: cs) pc ls ([vF a]) z g = (Rt (some (vF a)) z g) := rfl
theorem pvE_return {n : Nat} {cs : List (Instr × Nat)} {pc : Nat} {ls : pvL} {st : List pvV} {z : pvM} {g : Nat} : pvB lim sc F Ca Co Ex Gm J Rt Th ((.return_, n) :: cs) pc ls ([]) z g = (Rt none z g) := rfl
theorem pvE_throw {ix ic k pc : Nat} {cs : List (Instr × Nat)} {ls : pvL} {z : pvM} {g : Nat} (h0 : Ex ix = some k) : pvB lim sc F Ca Co Ex Gm J Rt Th ((.new ix, 3) :: (.dup, 1) :: (.invokespecial ic, 3) :: (.athrow, 1) :: cs) pc ls [] z g = (k < 4 ∧ g < Gm ∧ Th k (pc + 7) z g) := by
  simp [pvB, pvA, pvHp, pvTs, h0]
end
def pvX2 (q : Option (List Bool)) (lim : Nat → Prop) (sc : Nat × (Nat → Int)) (F : pvF) (Ca : pvCa) (Co : pvCo) (Ex : pvEx) (Gm : Nat) (Rt : Option pvV → pvM → Nat → Prop) (Th : Nat → Nat → pvM → Nat → Prop) (blk : Nat → List (Instr × Nat)) (cut : Nat → Option (List Bool)) (K : pvJ) (n pc : Nat) (ls : pvL) (st : List pvV) (z : pvM) (g : Nat) : Prop := match q with
  | some mm => K pc (pvMk mm ls) st z g
  | none => pvB lim sc F Ca Co Ex Gm (pvX lim sc F Ca Co Ex Gm Rt Th blk cut K n) Rt Th (blk pc) pc ls st z g
theorem pvX_c {lim : Nat → Prop} {sc : Nat × (Nat → Int)} {F : pvF} {Ca : pvCa} {Co : pvCo} {Ex : pvEx} {Gm : Nat} {Rt : Option pvV → pvM → Nat → Prop} {Th : Nat → Nat → pvM → Nat → Prop} {blk : Nat → List (Instr × Nat)} {cut : Nat → Option (List Bool)} {K : pvJ} {n pc : Nat} {ls : pvL} {st : List pvV} {z : pvM} {g : Nat} : pvX lim sc F Ca Co Ex Gm Rt Th blk cut K (n + 1) pc ls st z g = pvX2 (cut pc) lim sc F Ca Co Ex Gm Rt Th blk cut K n pc ls st z g := by
  simp only [pvX, pvX2]
  cases cut pc <;> rfl
theorem pvX_ms {lim : Nat → Prop} {sc : Nat × (Nat → Int)} {F : pvF} {Ca : pvCa} {Co : pvCo} {Ex : pvEx} {Gm : Nat} {Rt : Option pvV → pvM → Nat → Prop} {Th : Nat → Nat → pvM → Nat → Prop} {blk : Nat → List (Instr × Nat)} {cut : Nat → Option (List Bool)} {K : pvJ} {n pc : Nat} {ls : pvL} {st : List pvV} {z : pvM} {g : Nat} {mm : List Bool} : pvX2 (some mm) lim sc F Ca Co Ex Gm Rt Th blk cut K n pc ls st z g = K pc (pvMk mm ls) st z g := rfl
theorem pvX_mn {lim : Nat → Prop} {sc : Nat × (Nat → Int)} {F : pvF} {Ca : pvCa} {Co : pvCo} {Ex : pvEx} {Gm : Nat} {Rt : Option pvV → pvM → Nat → Prop} {Th : Nat → Nat → pvM → Nat → Prop} {blk : Nat → List (Instr × Nat)} {cut : Nat → Option (List Bool)} {K : pvJ} {n pc : Nat} {ls : pvL} {st : List pvV} {z : pvM} {g : Nat} : pvX2 none lim sc F Ca Co Ex Gm Rt Th blk cut K n pc ls st z g = pvB lim sc F Ca Co Ex Gm (pvX lim sc F Ca Co Ex Gm Rt Th blk cut K n) Rt Th (blk pc) pc ls st z g := rfl
theorem pvUp_ap {α : Type} {f : Nat → Nat → α} {i k : Nat} {v : α} {a b : Nat} : pvUp f i k v a b = if a = i ∧ b = k then v else f a b := rfl
theorem pvSt_ap {f : Nat → Nat → Int} {i : Nat} {g : Nat → Int} {a b : Nat} : pvSt f i g a b = if a = i then g b else f a b := by
  unfold pvSt
  split <;> rfl
theorem pvUp_nl {α : Type} {f : Nat → Nat → α} {i k a : Nat} {v : α} (h : a ≠ i) : pvUp f i k v a = f a := by
  funext b
  unfold pvUp
  rw [if_neg (fun e => h e.1)]
theorem pvUp_same {α : Type} {f : Nat → Nat → α} {i k : Nat} {v w : α} : pvUp (pvUp f i k v) i k w = pvUp f i k w := by
  funext a b
  unfold pvUp
  split <;> rfl
theorem pvRecv_r {lim : Nat → Prop} {ci id : Nat} {t : List pvV} : pvRecv lim ci (vR id :: t) = (pvSh id = .inl ci ∧ lim id) := rfl
theorem pvEn_i {a : Int} {t : List pvV} {n : Nat} : pvEn (vI a :: t) (n + 1) = some (vI a) :: pvEn t n := rfl
theorem pvEn_r {a : Nat} {t : List pvV} {n : Nat} : pvEn (vR a :: t) (n + 1) = some (vR a) :: pvEn t n := rfl
theorem pvEn_l {a : Int} {t : List pvV} {n : Nat} : pvEn (vL a :: t) (n + 2) = some (vL a) :: none :: pvEn t n := rfl
theorem pvEn_0 : pvEn [] 0 = [] := rfl
theorem pvEn_s {n : Nat} : pvEn [] (n + 1) = none :: pvEn [] n := rfl
theorem pvClr_i {a : Int} : pvClr (some (vI a)) = some (vI a) := rfl
theorem pvClr_r {a : Nat} : pvClr (some (vR a)) = some (vR a) := rfl
theorem pvClr_l {a : Int} : pvClr (some (vL a)) = none := rfl
theorem pvClr_d {a : UInt64} : pvClr (some (vD a)) = none := rfl
theorem pvClr_f {a : UInt32} : pvClr (some (vF a)) = some (vF a) := rfl
theorem pvClr_n : pvClr none = none := rfl
theorem pvMk_t {bs : List Bool} {x : Option pvV} {t : pvL} : pvMk (true :: bs) (x :: t) = x :: pvMk bs t := rfl
theorem pvMk_f {bs : List Bool} {x : Option pvV} {t : pvL} : pvMk (false :: bs) (x :: t) = none :: pvMk bs t := rfl
theorem pvMk_n : pvMk [] [] = [] := rfl
