/-! what is taken -/
/-- the class between the law's calls: caches, the search's rows, the word -/
def lsP (z : pvM) : Prop := pzF z ∧ psS z 13 emA ∧ (∃ Qs, quF z Qs) ∧ WvF z.1
def frL (lim : Nat → Prop) (z z' : pvM) : Prop := ∀ id, lim id → (id ≠ 0 ∧ id < 5 ∨ 64 ≤ id) → z'.1 id = z.1 id
theorem frL_r {lim : Nat → Prop} {z : pvM} : frL lim z z := fun _ _ _ => rfl
theorem frL_t {lim : Nat → Prop} {z z1 z2 : pvM} (h1 : frL lim z z1) (h2 : frL lim z1 z2) : frL lim z z2 := fun id h h' => (h2 id h h').trans (h1 id h h')
theorem frL_f {lim : Nat → Prop} {ids jds : List Nat} {z z' : pvM} (h : frF ids jds z z') (hi : ∀ x ∈ ids, 5 ≤ x ∧ x < 64) : frL lim z z' := fun id _ h' => h.1 id fun hm => by
  have := hi id hm
  omega
theorem psS_f {z z' : pvM} {ids jds : List Nat} (h : psS z 13 emA) (hf : frF ids jds z z') (h13 : 13 ∉ ids) (h14 : 14 ∉ ids) : psS z' 13 emA := by
  obtain ⟨h1, h2, h3, h4, h5⟩ := h
  have e1 : z'.1 13 = z.1 13 := hf.1 13 h13
  have e2 : z'.1 14 = z.1 14 := hf.1 14 h14
  exact ⟨h1, by show mvP (z'.1 14) emA; rw [e2]; exact h2, by rw [e1]; exact h3, by rw [e1]; exact h4, h5⟩
theorem quF_f {z z' : pvM} {Qs : List Int} {ids jds : List Nat} (h : quF z Qs) (hf : frF ids jds z z') (h28 : 28 ∉ ids) (h29 : 29 ∉ ids) (h30 : 30 ∉ ids) : quF z' Qs := by
  unfold quF at *
  rw [hf.1 28 h28, hf.1 29 h29, hf.1 30 h30]
  exact h
theorem WvF_f {z z' : pvM} {ids jds : List Nat} (h : WvF z.1) (hf : frF ids jds z z') (h20 : 20 ∉ ids) (h21 : 21 ∉ ids) (h22 : 22 ∉ ids) (h23 : 23 ∉ ids) : WvF z'.1 := by
  unfold WvF WcF at *
  rw [hf.1 20 h20, hf.1 21 h21, hf.1 22 h22, hf.1 23 h23]
  exact h
theorem lsP_py {z z' : pvM} {s : Int} (h : lsP z) (hp : pyF z s z') : lsP z' := by
  obtain ⟨h1, h2, ⟨Qs, h3⟩, h4⟩ := h
  obtain ⟨f, p, -⟩ := hp
  unfold pwF at f
  split at f
  · exact ⟨p, psS_f h2 f (by decide) (by decide), ⟨Qs, quF_f h3 f (by decide) (by decide) (by decide)⟩, WvF_f h4 f (by decide) (by decide) (by decide) (by decide)⟩
  · exact ⟨p, psS_f h2 f (by decide) (by decide), ⟨Qs, quF_f h3 f (by decide) (by decide) (by decide)⟩, WvF_f h4 f (by decide) (by decide) (by decide) (by decide)⟩
theorem lsP_aw {z z' : pvM} (h : lsP z) (f : frF [5, 6, 7, 8, 9, 10, 11, 12] [34, 35] z z') (p : pzF z') : lsP z' := by
  obtain ⟨h1, h2, ⟨Qs, h3⟩, h4⟩ := h
  exact ⟨p, psS_f h2 f (by decide) (by decide), ⟨Qs, quF_f h3 f (by decide) (by decide) (by decide)⟩, WvF_f h4 f (by decide) (by decide) (by decide) (by decide)⟩
theorem frL_py {lim : Nat → Prop} {z z' : pvM} {s : Int} (hp : pyF z s z') : frL lim z z' := by
  obtain ⟨f, -, -⟩ := hp
  unfold pwF at f
  split at f <;> exact frL_f f (by decide)
theorem rw_l {s : Int} : rwC s < 5 ∧ rwC s ≠ 0 := by
  unfold rwC
  split <;> decide
theorem frL_rw {lim : Nat → Prop} (hl : ∀ id, id < 39 → lim id) {z z' : pvM} (h : frL lim z z') (s : Int) : z'.1 (rwC s) = z.1 (rwC s) := h _ (hl _ (by have := rw_l (s := s); omega)) (Or.inl ⟨rw_l.2, rw_l.1⟩)
/-- the class's row of a slot is the automaton of the law's row of transitions, with the law's sets -/
def auP (lim : Nat → Prop) (z : pvM) (s : Int) (t : Nat) (ini fin : Int) : Prop := trP lim z t (autC (z.1 (rwC s))) ∧ ini = (autC (z.1 (rwC s))).2.1 ∧ fin = (autC (z.1 (rwC s))).2.2.1
theorem auP_m {lim : Nat → Prop} (hl : ∀ id, id < 39 → lim id) {z z' : pvM} {s : Int} {t : Nat} {ini fin : Int} (h : auP lim z s t ini fin) (hf : frL lim z z') : auP lim z' s t ini fin := by
  unfold auP at *
  rw [frL_rw hl hf s]
  exact ⟨trP_m h.1 (hf t h.1.1.1 (Or.inr h.1.1.2.2.1)), h.2⟩
theorem lsP_c {z z' : pvM} (h : lsP z) (e : ∀ id, id < 39 → z'.1 id = z.1 id) : lsP z' := by
  obtain ⟨h1, h2, ⟨Qs, h3⟩, h4⟩ := h
  refine ⟨fun s hs => ?_, ?_, ⟨Qs, ?_⟩, ?_⟩
  · obtain ⟨a, b, c⟩ := h1 s hs
    have hp : pwF s + 3 < 39 := by unfold pwF; split <;> decide
    have er : z'.1 (rwC s) = z.1 (rwC s) := e _ (by have := rw_l (s := s); omega)
    have e0 := e (pwF s) (by omega)
    rw [er, e0]
    exact ⟨a, b, fun h => psP_m (c h) e0 (e _ (by omega)) (e _ (by omega)) (e _ (by omega))⟩
  · obtain ⟨a1, a2, a3, a4, a5⟩ := h2
    exact ⟨a1, by show mvP (z'.1 14) emA; rw [e 14 (by decide)]; exact a2, by rw [e 13 (by decide)]; exact a3, by rw [e 13 (by decide)]; exact a4, a5⟩
  · unfold quF at *
    rw [e 28 (by decide), e 29 (by decide), e 30 (by decide)]
    exact h3
  · unfold WvF WcF at *
    rw [e 20 (by decide), e 21 (by decide), e 22 (by decide), e 23 (by decide)]
    exact h4
def C_L_take (lim : Nat → Prop) (sc : Nat × (Nat → Int)) : pvC
  | [.inr (.inr (.inl id)), .inl s, .inl df], z, Q => id = 0 ∧ (lim 0 ∧ (0 ≤ s ∧ s ≤ 1) ∧ (df = 0 ∨ df = 1) ∧ lsP z) ∧
      ∀ z' : pvM, lsP z' → ((¬ ∃ F, F ≤ 10 ∧ fdF (autC (z.1 (rwC s))) (bdF df (autC (z.1 (rwC (1 - s))))) F) → frF [5, 6, 7, 8, 9, 10, 11, 12, 28, 29, 30, 32] [] z z' → Q (.inl (some (vI (-1)))) z') ∧
        (∀ F : Nat, F ≤ 10 → fdF (autC (z.1 (rwC s))) (bdF df (autC (z.1 (rwC (1 - s))))) F → frF [5, 6, 7, 8, 9, 10, 11, 12, 20, 21, 22, 23, 28, 29, 30, 31, 32] [] z z' → z'.1 20 4 = F → tkP (autC (z.1 (rwC s))) (bdF df (autC (z.1 (rwC (1 - s))))) F (z'.1 21) (z'.1 22) → Q (.inl (some (vI (F : Int)))) z')
  | _, _, _ => False
def bL_take : Nat → List (Instr × Nat)
  | 0 => [(.iload_n 2, 1), (.ifCond .eq 11, 3), (.aload_n 0, 1), (.iload_n 1, 1), (.invokevirtual 109, 3), (.goto 8, 3)]
  | 12 => [(.aload_n 0, 1), (.iload_n 1, 1), (.invokevirtual 112, 3)]
  | 17 => [(.ireturn, 1)]
  | _ => []
def uL_take : Nat → Option (List Bool)
  | _ => none
def aL_take (lim : Nat → Prop) (sc : Nat × (Nat → Int)) : pvCa
  | 109 => some (2, false, 8, 0, C_X9_takeDifference)
  | 112 => some (2, false, 8, 0, C_X9_takeWitness)
  | _ => none
theorem bL_take_0 : bL_take 0 = [(.iload_n 2, 1), (.ifCond .eq 11, 3), (.aload_n 0, 1), (.iload_n 1, 1), (.invokevirtual 109, 3), (.goto 8, 3)] := rfl
theorem uL_take_0 : uL_take 0 = none := rfl
theorem bL_take_12 : bL_take 12 = [(.aload_n 0, 1), (.iload_n 1, 1), (.invokevirtual 112, 3)] := rfl
theorem uL_take_12 : uL_take 12 = none := rfl
theorem bL_take_17 : bL_take 17 = [(.ireturn, 1)] := rfl
theorem uL_take_17 : uL_take 17 = none := rfl
theorem aL_take_109 {lim : Nat → Prop} {sc : Nat × (Nat → Int)} : aL_take lim sc 109 = some (2, false, 8, 0, C_X9_takeDifference) := rfl
theorem aL_take_112 {lim : Nat → Prop} {sc : Nat × (Nat → Int)} : aL_take lim sc 112 = some (2, false, 8, 0, C_X9_takeWitness) := rfl
def mL_take : Room := { frames := 8, cells := 1, slots := 6, locals := 176 }
def C_L_isTaken (lim : Nat → Prop) (sc : Nat × (Nat → Int)) : pvC
  | [.inr (.inr (.inl id)), .inl s, .inr (.inr (.inl t)), .inl ini, .inl fin, .inr (.inr (.inl u)), .inl ini2, .inl fin2, .inl df], z, Q => id = 0 ∧ ((∀ id, id < 39 → lim id) ∧ (0 ≤ s ∧ s ≤ 1) ∧ (df = 0 ∨ df = 1) ∧ lsP z ∧ auP lim z s t ini fin ∧ auP lim z (1 - s) u ini2 fin2) ∧
      ∀ z' : pvM, lsP z' → frL lim z z' → Q (.inl (some (vI 1))) z'
  | _, _, _ => False
def bL_isTaken : Nat → List (Instr × Nat)
  | 0 => [(.iload 8, 2), (.ifCond .eq 11, 3), (.aload_n 0, 1), (.iload_n 1, 1), (.invokevirtual 127, 3), (.goto 8, 3)]
  | 13 => [(.aload_n 0, 1), (.iload_n 1, 1), (.invokevirtual 131, 3)]
  | 18 => [(.istore 9, 2), (.aload_n 0, 1), (.iload_n 1, 1), (.iload 8, 2), (.invokestatic 134, 3), (.istore 10, 2), (.aload_n 2, 1), (.iload_n 3, 1), (.iload 4, 2), (.aload 5, 2), (.iload 6, 2), (.iload 7, 2), (.iload 8, 2), (.invokestatic 138, 3), (.istore 11, 2), (.iload 10, 2), (.ifCond .ge 30, 3), (.iload 10, 2), (.iconst (-1), 1), (.if_icmp .ne 22, 3), (.iload 11, 2), (.ifCond .ge 17, 3), (.iload 9, 2), (.ifCond .ne 8, 3), (.iload 9, 2), (.ifCond .ne 7, 3)]
  | 72 => [(.iconst 1, 1), (.goto 4, 3)]
  | 76 => [(.iconst 0, 1)]
  | 77 => [(.ireturn, 1)]
  | 78 => [(.iload 9, 2), (.ifCond .ne 39, 3), (.aload_n 0, 1), (.invokevirtual 142, 3), (.iload 10, 2), (.if_icmp .ne 30, 3), (.iload 11, 2), (.ifCond .ge 9, 3), (.iload 10, 2), (.iconst 3, 1), (.if_icmp .lt 19, 3)]
  | 103 => [(.iload 11, 2), (.ifCond .lt 16, 3), (.iload 11, 2), (.sipush 1000, 3), (.idiv, 1), (.iload 10, 2), (.if_icmp .eq 5, 3)]
  | 119 => [(.iconst 0, 1), (.ireturn, 1)]
  | 121 => [(.bipush 10, 2), (.newarray .int, 2), (.astore 12, 2), (.bipush 10, 2), (.newarray .int, 2), (.astore 13, 2)]
  | 133 => [(.iconst 0, 1), (.istore 14, 2)]
  | 136 => [(.iload 14, 2), (.iload 10, 2), (.if_icmp .ge 33, 3), (.aload 12, 2), (.iload 14, 2), (.aload_n 0, 1), (.iload 14, 2), (.iconst 0, 1), (.invokevirtual 145, 3), (.iastore, 1), (.aload 13, 2), (.iload 14, 2), (.aload_n 0, 1), (.iload 14, 2), (.iconst 1, 1), (.invokevirtual 145, 3), (.iastore, 1), (.iinc 14 1, 3), (.goto (-34), 3)]
  | 173 => [(.iload 10, 2), (.iconst 1, 1), (.if_icmp .ne 23, 3), (.iconst 5, 1), (.aload 13, 2), (.iconst 0, 1), (.iaload, 1), (.imul, 1), (.aload 12, 2), (.iconst 0, 1), (.iaload, 1), (.iadd, 1), (.iload 11, 2), (.sipush 1000, 3), (.irem, 1), (.if_icmp .ne 44, 3)]
  | 199 => [(.iload 10, 2), (.iconst 2, 1), (.if_icmp .ne 40, 3), (.bipush 15, 2), (.iconst 5, 1), (.aload 13, 2), (.iconst 0, 1), (.iaload, 1), (.imul, 1), (.aload 12, 2), (.iconst 0, 1), (.iaload, 1), (.iadd, 1), (.imul, 1), (.iconst 5, 1), (.aload 13, 2), (.iconst 1, 1), (.iaload, 1), (.imul, 1), (.iadd, 1), (.aload 12, 2), (.iconst 1, 1), (.iaload, 1), (.iadd, 1), (.iload 11, 2), (.sipush 1000, 3), (.irem, 1), (.if_icmp .eq 5, 3)]
  | 240 => [(.iconst 0, 1), (.ireturn, 1)]
  | 242 => [(.iload 8, 2), (.ifCond .ne 34, 3), (.iconst 0, 1), (.istore 14, 2)]
  | 250 => [(.iload 14, 2), (.iload 10, 2), (.if_icmp .ge 24, 3), (.aload_n 0, 1), (.iload_n 1, 1), (.iload 14, 2), (.iconst 4, 1), (.invokevirtual 148, 3), (.lconst 0, 1), (.lcmp, 1), (.ifCond .eq 5, 3), (.iconst 0, 1), (.ireturn, 1)]
  | 272 => [(.iinc 14 1, 3), (.goto (-25), 3)]
  | 278 => [(.aload_n 2, 1), (.iload_n 3, 1), (.iload 4, 2), (.aload 5, 2), (.iload 6, 2), (.iload 7, 2), (.iload 8, 2), (.aload 12, 2), (.aload 13, 2), (.iload 10, 2), (.invokestatic 123, 3), (.ifCond .eq 30, 3), (.aload_n 0, 1), (.iload_n 1, 1), (.invokevirtual 152, 3), (.ifCond .eq 22, 3), (.iload 8, 2), (.ifCond .eq 13, 3), (.aload_n 0, 1), (.iconst 1, 1), (.iload_n 1, 1), (.isub, 1), (.invokevirtual 152, 3), (.ifCond .ne 7, 3)]
  | 325 => [(.iconst 1, 1), (.goto 4, 3)]
  | 329 => [(.iconst 0, 1)]
  | 330 => [(.ireturn, 1)]
  | _ => []
def uL_isTaken : Nat → Option (List Bool)
  | 18 => some [true, true, true, true, true, true, true, true, true, false, false, false, false, false, false]
  | 121 => some [true, true, true, true, true, true, true, true, true, false, true, true, false, false, false]
  | 133 => some [true, true, true, true, true, true, true, true, true, false, true, true, true, true, false]
  | 136 => some [true, true, true, true, true, true, true, true, true, false, true, true, true, true, true]
  | 173 => some [true, true, true, true, true, true, true, true, true, false, true, true, true, true, false]
  | 242 => some [true, true, true, true, true, true, true, true, true, false, true, false, true, true, false]
  | 250 => some [true, true, true, true, true, true, true, true, true, false, true, false, true, true, true]
  | 278 => some [true, true, true, true, true, true, true, true, true, false, true, false, true, true, false]
  | _ => none
def aL_isTaken (lim : Nat → Prop) (sc : Nat × (Nat → Int)) : pvCa
  | 123 => some (10, true, 0, 0, C_L_isOne lim sc)
  | 127 => some (2, false, 8, 0, C_X9_isIncluded)
  | 131 => some (2, false, 8, 0, C_X9_isEmpty)
  | 134 => some (3, true, 0, 1, C_L_take lim sc)
  | 138 => some (7, true, 0, 3, C_L_first lim sc)
  | 142 => some (1, false, 8, 0, C_X9_wordLength)
  | 145 => some (3, false, 8, 0, C_X9_event)
  | 148 => some (4, false, 8, 0, C_X9_acceptedWords)
  | 152 => some (2, false, 8, 0, C_X9_accepts)
  | _ => none
theorem bL_isTaken_0 : bL_isTaken 0 = [(.iload 8, 2), (.ifCond .eq 11, 3), (.aload_n 0, 1), (.iload_n 1, 1), (.invokevirtual 127, 3), (.goto 8, 3)] := rfl
theorem uL_isTaken_0 : uL_isTaken 0 = none := rfl
theorem bL_isTaken_13 : bL_isTaken 13 = [(.aload_n 0, 1), (.iload_n 1, 1), (.invokevirtual 131, 3)] := rfl
theorem uL_isTaken_13 : uL_isTaken 13 = none := rfl
theorem bL_isTaken_18 : bL_isTaken 18 = [(.istore 9, 2), (.aload_n 0, 1), (.iload_n 1, 1), (.iload 8, 2), (.invokestatic 134, 3), (.istore 10, 2), (.aload_n 2, 1), (.iload_n 3, 1), (.iload 4, 2), (.aload 5, 2), (.iload 6, 2), (.iload 7, 2), (.iload 8, 2), (.invokestatic 138, 3), (.istore 11, 2), (.iload 10, 2), (.ifCond .ge 30, 3), (.iload 10, 2), (.iconst (-1), 1), (.if_icmp .ne 22, 3), (.iload 11, 2), (.ifCond .ge 17, 3), (.iload 9, 2), (.ifCond .ne 8, 3), (.iload 9, 2), (.ifCond .ne 7, 3)] := rfl
theorem uL_isTaken_18 : uL_isTaken 18 = some [true, true, true, true, true, true, true, true, true, false, false, false, false, false, false] := rfl
theorem bL_isTaken_72 : bL_isTaken 72 = [(.iconst 1, 1), (.goto 4, 3)] := rfl
theorem uL_isTaken_72 : uL_isTaken 72 = none := rfl
theorem bL_isTaken_76 : bL_isTaken 76 = [(.iconst 0, 1)] := rfl
theorem uL_isTaken_76 : uL_isTaken 76 = none := rfl
theorem bL_isTaken_77 : bL_isTaken 77 = [(.ireturn, 1)] := rfl
theorem uL_isTaken_77 : uL_isTaken 77 = none := rfl
theorem bL_isTaken_78 : bL_isTaken 78 = [(.iload 9, 2), (.ifCond .ne 39, 3), (.aload_n 0, 1), (.invokevirtual 142, 3), (.iload 10, 2), (.if_icmp .ne 30, 3), (.iload 11, 2), (.ifCond .ge 9, 3), (.iload 10, 2), (.iconst 3, 1), (.if_icmp .lt 19, 3)] := rfl
theorem uL_isTaken_78 : uL_isTaken 78 = none := rfl
theorem bL_isTaken_103 : bL_isTaken 103 = [(.iload 11, 2), (.ifCond .lt 16, 3), (.iload 11, 2), (.sipush 1000, 3), (.idiv, 1), (.iload 10, 2), (.if_icmp .eq 5, 3)] := rfl
theorem uL_isTaken_103 : uL_isTaken 103 = none := rfl
theorem bL_isTaken_119 : bL_isTaken 119 = [(.iconst 0, 1), (.ireturn, 1)] := rfl
theorem uL_isTaken_119 : uL_isTaken 119 = none := rfl
theorem bL_isTaken_121 : bL_isTaken 121 = [(.bipush 10, 2), (.newarray .int, 2), (.astore 12, 2), (.bipush 10, 2), (.newarray .int, 2), (.astore 13, 2)] := rfl
theorem uL_isTaken_121 : uL_isTaken 121 = some [true, true, true, true, true, true, true, true, true, false, true, true, false, false, false] := rfl
theorem bL_isTaken_133 : bL_isTaken 133 = [(.iconst 0, 1), (.istore 14, 2)] := rfl
theorem uL_isTaken_133 : uL_isTaken 133 = some [true, true, true, true, true, true, true, true, true, false, true, true, true, true, false] := rfl
theorem bL_isTaken_136 : bL_isTaken 136 = [(.iload 14, 2), (.iload 10, 2), (.if_icmp .ge 33, 3), (.aload 12, 2), (.iload 14, 2), (.aload_n 0, 1), (.iload 14, 2), (.iconst 0, 1), (.invokevirtual 145, 3), (.iastore, 1), (.aload 13, 2), (.iload 14, 2), (.aload_n 0, 1), (.iload 14, 2), (.iconst 1, 1), (.invokevirtual 145, 3), (.iastore, 1), (.iinc 14 1, 3), (.goto (-34), 3)] := rfl
theorem uL_isTaken_136 : uL_isTaken 136 = some [true, true, true, true, true, true, true, true, true, false, true, true, true, true, true] := rfl
theorem bL_isTaken_173 : bL_isTaken 173 = [(.iload 10, 2), (.iconst 1, 1), (.if_icmp .ne 23, 3), (.iconst 5, 1), (.aload 13, 2), (.iconst 0, 1), (.iaload, 1), (.imul, 1), (.aload 12, 2), (.iconst 0, 1), (.iaload, 1), (.iadd, 1), (.iload 11, 2), (.sipush 1000, 3), (.irem, 1), (.if_icmp .ne 44, 3)] := rfl
theorem uL_isTaken_173 : uL_isTaken 173 = some [true, true, true, true, true, true, true, true, true, false, true, true, true, true, false] := rfl
theorem bL_isTaken_199 : bL_isTaken 199 = [(.iload 10, 2), (.iconst 2, 1), (.if_icmp .ne 40, 3), (.bipush 15, 2), (.iconst 5, 1), (.aload 13, 2), (.iconst 0, 1), (.iaload, 1), (.imul, 1), (.aload 12, 2), (.iconst 0, 1), (.iaload, 1), (.iadd, 1), (.imul, 1), (.iconst 5, 1), (.aload 13, 2), (.iconst 1, 1), (.iaload, 1), (.imul, 1), (.iadd, 1), (.aload 12, 2), (.iconst 1, 1), (.iaload, 1), (.iadd, 1), (.iload 11, 2), (.sipush 1000, 3), (.irem, 1), (.if_icmp .eq 5, 3)] := rfl
theorem uL_isTaken_199 : uL_isTaken 199 = none := rfl
theorem bL_isTaken_240 : bL_isTaken 240 = [(.iconst 0, 1), (.ireturn, 1)] := rfl
theorem uL_isTaken_240 : uL_isTaken 240 = none := rfl
theorem bL_isTaken_242 : bL_isTaken 242 = [(.iload 8, 2), (.ifCond .ne 34, 3), (.iconst 0, 1), (.istore 14, 2)] := rfl
theorem uL_isTaken_242 : uL_isTaken 242 = some [true, true, true, true, true, true, true, true, true, false, true, false, true, true, false] := rfl
theorem bL_isTaken_250 : bL_isTaken 250 = [(.iload 14, 2), (.iload 10, 2), (.if_icmp .ge 24, 3), (.aload_n 0, 1), (.iload_n 1, 1), (.iload 14, 2), (.iconst 4, 1), (.invokevirtual 148, 3), (.lconst 0, 1), (.lcmp, 1), (.ifCond .eq 5, 3), (.iconst 0, 1), (.ireturn, 1)] := rfl
theorem uL_isTaken_250 : uL_isTaken 250 = some [true, true, true, true, true, true, true, true, true, false, true, false, true, true, true] := rfl
theorem bL_isTaken_272 : bL_isTaken 272 = [(.iinc 14 1, 3), (.goto (-25), 3)] := rfl
theorem uL_isTaken_272 : uL_isTaken 272 = none := rfl
theorem bL_isTaken_278 : bL_isTaken 278 = [(.aload_n 2, 1), (.iload_n 3, 1), (.iload 4, 2), (.aload 5, 2), (.iload 6, 2), (.iload 7, 2), (.iload 8, 2), (.aload 12, 2), (.aload 13, 2), (.iload 10, 2), (.invokestatic 123, 3), (.ifCond .eq 30, 3), (.aload_n 0, 1), (.iload_n 1, 1), (.invokevirtual 152, 3), (.ifCond .eq 22, 3), (.iload 8, 2), (.ifCond .eq 13, 3), (.aload_n 0, 1), (.iconst 1, 1), (.iload_n 1, 1), (.isub, 1), (.invokevirtual 152, 3), (.ifCond .ne 7, 3)] := rfl
theorem uL_isTaken_278 : uL_isTaken 278 = some [true, true, true, true, true, true, true, true, true, false, true, false, true, true, false] := rfl
theorem bL_isTaken_325 : bL_isTaken 325 = [(.iconst 1, 1), (.goto 4, 3)] := rfl
theorem uL_isTaken_325 : uL_isTaken 325 = none := rfl
theorem bL_isTaken_329 : bL_isTaken 329 = [(.iconst 0, 1)] := rfl
theorem uL_isTaken_329 : uL_isTaken 329 = none := rfl
theorem bL_isTaken_330 : bL_isTaken 330 = [(.ireturn, 1)] := rfl
theorem uL_isTaken_330 : uL_isTaken 330 = none := rfl
theorem aL_isTaken_123 {lim : Nat → Prop} {sc : Nat × (Nat → Int)} : aL_isTaken lim sc 123 = some (10, true, 0, 0, C_L_isOne lim sc) := rfl
theorem aL_isTaken_127 {lim : Nat → Prop} {sc : Nat × (Nat → Int)} : aL_isTaken lim sc 127 = some (2, false, 8, 0, C_X9_isIncluded) := rfl
theorem aL_isTaken_131 {lim : Nat → Prop} {sc : Nat × (Nat → Int)} : aL_isTaken lim sc 131 = some (2, false, 8, 0, C_X9_isEmpty) := rfl
theorem aL_isTaken_134 {lim : Nat → Prop} {sc : Nat × (Nat → Int)} : aL_isTaken lim sc 134 = some (3, true, 0, 1, C_L_take lim sc) := rfl
theorem aL_isTaken_138 {lim : Nat → Prop} {sc : Nat × (Nat → Int)} : aL_isTaken lim sc 138 = some (7, true, 0, 3, C_L_first lim sc) := rfl
theorem aL_isTaken_142 {lim : Nat → Prop} {sc : Nat × (Nat → Int)} : aL_isTaken lim sc 142 = some (1, false, 8, 0, C_X9_wordLength) := rfl
theorem aL_isTaken_145 {lim : Nat → Prop} {sc : Nat × (Nat → Int)} : aL_isTaken lim sc 145 = some (3, false, 8, 0, C_X9_event) := rfl
theorem aL_isTaken_148 {lim : Nat → Prop} {sc : Nat × (Nat → Int)} : aL_isTaken lim sc 148 = some (4, false, 8, 0, C_X9_acceptedWords) := rfl
theorem aL_isTaken_152 {lim : Nat → Prop} {sc : Nat × (Nat → Int)} : aL_isTaken lim sc 152 = some (2, false, 8, 0, C_X9_accepts) := rfl
def mL_isTaken : Room := { frames := 9, cells := 10, slots := 60, locals := 199 }
/-- behind the taking and the law's own first word, ahead of the rows that hold what was taken -/
def tkS (lim : Nat → Prop) (z z' : pvM) (s df own : Int) (F : Nat) : Prop := lsP z' ∧ frL lim z z' ∧ F ≤ 10 ∧ fdF (autC (z.1 (rwC s))) (bdF df (autC (z.1 (rwC (1 - s))))) F ∧ z'.1 20 4 = F ∧ tkP (autC (z.1 (rwC s))) (bdF df (autC (z.1 (rwC (1 - s))))) F (z'.1 21) (z'.1 22) ∧ fsP (autC (z.1 (rwC s))) (autC (z.1 (rwC (1 - s)))) df own
set_option maxRecDepth 100000 in
set_option maxHeartbeats 4000000 in
theorem okL_isTaken1 {lim : Nat → Prop} {sc : Nat × (Nat → Int)} {Q : pvO → pvM → Prop} {SW : pvJ} (hc : pvCloG lim sc fL (aL_isTaken lim sc) kL 10 (pvRtG 10 (some .boolean) Q) bL_isTaken uL_isTaken SW)
    {s df ini fin ini2 fin2 : Int} {t u : Nat} {z : pvM} (hl : ∀ id, id < 39 → lim id) (hs : 0 ≤ s ∧ s ≤ 1) (hdf : df = 0 ∨ df = 1) (hls : lsP z) (hA : auP lim z s t ini fin) (hB : auP lim z (1 - s) u ini2 fin2)
    (hQ : ∀ z' : pvM, lsP z' → frL lim z z' → Q (.inl (some (vI 1))) z')
    (h121 : ∀ (z' : pvM) (own : Int) (F : Nat), tkS lim z z' s df own F → SW 121 [some (vR 0), some (vI s), some (vR t), some (vI ini), some (vI fin), some (vR u), some (vI ini2), some (vI fin2), some (vI df), none, some (vI (F : Int)), some (vI own), none, none, none] [] z' 4) :
    SW 0 [some (vR 0), some (vI s), some (vR t), some (vI ini), some (vI fin), some (vR u), some (vI ini2), some (vI fin2), some (vI df), none, none, none, none, none, none] [] z 0 := by
  have hwA : WfA (autC (z.1 (rwC s))) := hA.1.2.1
  have hwB : WfA (autC (z.1 (rwC (1 - s)))) := hB.1.2.1
  obtain ⟨A, eA⟩ : ∃ A, autC (z.1 (rwC s)) = A := ⟨_, rfl⟩
  obtain ⟨B, eB⟩ : ∃ B, autC (z.1 (rwC (1 - s))) = B := ⟨_, rfl⟩
  have hl0 := hl 0 (by decide)
  -- behind isIncluded or isEmpty
  have h18 : ∀ (z1 : pvM) (none9 : Int), (none9 = 0 ∨ none9 = 1) → lsP z1 → frL lim z z1 → ((∃ F, fdF A (bdF df B) F) → none9 = 0) → 
      SW 18 [some (vR 0), some (vI s), some (vR t), some (vI ini), some (vI fin), some (vR u), some (vI ini2), some (vI fin2), some (vI df), none, none, none, none, none, none] [vI none9] z1 0 := by
    intro z1 none9 hn9 hls1 hf1 hne
    have eA1 : autC (z1.1 (rwC s)) = A := by rw [frL_rw hl hf1 s, eA]
    have eB1 : autC (z1.1 (rwC (1 - s))) = B := by rw [frL_rw hl hf1 (1 - s), eB]
    refine hc 20 _ _ _ _ _ fun _ _ _ => ?_
    simp only [pvStG]
    simp only [C_L_take, C_L_first, C_X9_wordLength, pvE_iload, pvLI_s, pvLd, pvE_if_eq, pvE_aload_n0, pvLA_s, pvE_iload_n1, pvE_invokevirtual, pvC1_s, pvC2_s, pvAf_v, pvAf_x, pvPop, pvCs, pvCat, pvPush, aL_isTaken_127, pvSh_0, pvSh_1, pvSh_2, pvSh_3, pvSh_4, pvSh_5, pvSh_6, pvSh_7, pvSh_8, pvSh_9, pvSh_10, pvSh_11, pvSh_12, pvSh_13, pvSh_14, pvSh_15, pvSh_16, pvSh_17, pvSh_18, pvSh_19, pvSh_20, pvSh_21, pvSh_22, pvSh_23, pvSh_24, pvSh_25, pvSh_26, pvSh_27, pvSh_28, pvSh_29, pvSh_30, pvSh_31, pvSh_32, pvSh_33, pvSh_34, pvSh_35, pvSh_36, pvSh_37, pvSh_38, pvE_goto, aL_isTaken_131, pvE_istore, pvS1, List.length_cons, List.length_nil, pvClr_i, pvClr_r, pvClr_l, pvClr_d, pvClr_f, pvClr_n, pvE_invokestatic (Ex := fun _ => none) (h0 := rfl), aL_isTaken_134, pvE_aload_n2, pvE_iload_n3, pvE_aload, aL_isTaken_138, pvE_if_ge, pvE_iconst, pvE_icmp_ne, pvE_if_ne, pvE_ireturn, aL_isTaken_142, pvE_icmp_lt, pvE_if_lt, pvE_sipush, pvE_idiv, pvE_icmp_eq, pvE_bipush, pvE_astore, pvE_icmp_ge, aL_isTaken_145, pvE_iastore, pvE_iinc, pvIc_s, pvE_iaload, pvE_imul, pvE_iadd, pvE_irem, aL_isTaken_148, pvE_lconst0, pvE_lcmp, aL_isTaken_123, aL_isTaken_152, pvE_isub, bL_isTaken_0, uL_isTaken_0, bL_isTaken_13, uL_isTaken_13, bL_isTaken_18, uL_isTaken_18, bL_isTaken_72, uL_isTaken_72, bL_isTaken_76, uL_isTaken_76, bL_isTaken_77, uL_isTaken_77, bL_isTaken_78, uL_isTaken_78, bL_isTaken_103, uL_isTaken_103, bL_isTaken_119, uL_isTaken_119, bL_isTaken_121, uL_isTaken_121, bL_isTaken_133, uL_isTaken_133, bL_isTaken_136, uL_isTaken_136, bL_isTaken_173, uL_isTaken_173, bL_isTaken_199, uL_isTaken_199, bL_isTaken_240, uL_isTaken_240, bL_isTaken_242, uL_isTaken_242, bL_isTaken_250, uL_isTaken_250, bL_isTaken_272, uL_isTaken_272, bL_isTaken_278, uL_isTaken_278, bL_isTaken_325, uL_isTaken_325, bL_isTaken_329, uL_isTaken_329, bL_isTaken_330, uL_isTaken_330, pvMk_t, pvMk_f, pvMk_n, pvRtG, pvRecv_r, pvUp_nl, pvUp_same, pvUp_ap, pvSt_ap, pvX_c, pvX_ms, pvX_mn, pvE_nil, pvEn_i, pvEn_r, pvEn_l, pvEn_0, pvEn_s, pvRt, pvRv, pvTh, pvKc, pvGo, pvTgt, Int.toNat_natCast, false_and, and_false, true_and, and_true, if_true, if_false, reduceIte, reduceCtorEq, forall_const, false_or, or_false, true_or, or_true, ne_eq, not_true_eq_false, not_false_eq_true, implies_true, false_implies, Nat.reduceAdd, Nat.reduceSub, Nat.reduceMul, Nat.reduceEqDiff, Nat.reduceLT, Nat.reduceLeDiff, Int.reduceAdd, Int.reduceSub, Int.reduceMul, Int.reduceNeg, Int.reduceToNat, Int.reduceLE, Int.reduceLT, Int.reduceEq, Int.reduceNe, and_self]
    rw [eA1, eB1]
    have htA : ∀ z2, frL lim z z2 → trP lim z2 t A := fun z2 h => by
      have := (auP_m hl hA h).1
      rw [frL_rw hl h s, eA] at this
      exact this
    have htB : ∀ z2, frL lim z z2 → trP lim z2 u B := fun z2 h => by
      have := (auP_m hl hB h).1
      rw [frL_rw hl h (1 - s), eB] at this
      exact this
    have hini : ini = A.2.1 ∧ fin = A.2.2.1 := by rw [← eA]; exact hA.2
    have hini2 : ini2 = B.2.1 ∧ fin2 = B.2.2.1 := by rw [← eB]; exact hB.2
    rw [eA] at hwA
    rw [eB] at hwB
    refine ⟨⟨hl0, hs, hdf, hls1⟩, fun z2 hls2 => ⟨fun hno f2 => ?_, fun F hF hfd f2 h20 htk => ?_⟩⟩
    · have hf2 : frL lim z z2 := frL_t hf1 (frL_f f2 (by decide))
      refine ⟨A, B, ⟨htA z2 hf2, hini, htB z2 hf2, hini2, hdf⟩, fun own z3 e3 e3' hfs => ?_⟩
      have hown := fs_no hwA hwB hno hfs
      have hls3 := lsP_c hls2 (fun id h => e3 id (hl id h))
      have hf3 : frL lim z z3 := frL_t hf2 (fun id h _ => e3 id h)
      have q := hQ z3 hls3 hf3
      clear hc h121 hfs
      subst hown
      (repeat' first | with_reducible apply And.intro | with_reducible intro _)
      all_goals first
        | omega
        | exact q
        | (exfalso; omega)
        | trivial
    · have hf2 : frL lim z z2 := frL_t hf1 (frL_f f2 (by decide))
      refine ⟨A, B, ⟨htA z2 hf2, hini, htB z2 hf2, hini2, hdf⟩, fun own z3 e3 e3' hfs => ?_⟩
      have hls3 := lsP_c hls2 (fun id h => e3 id (hl id h))
      have hf3 : frL lim z z3 := frL_t hf2 (fun id h _ => e3 id h)
      have e20 : z3.1 20 4 = F := by rw [e3 20 (hl 20 (by decide))]; exact h20
      have htk3 : tkP A (bdF df B) F (z3.1 21) (z3.1 22) := by
        rw [e3 21 (hl 21 (by decide)), e3 22 (hl 22 (by decide))]
        exact htk
      obtain ⟨g1, g2, -, -, g5⟩ := fs_F hwA hwB hfd hF htk hfs
      have hn0 := hne ⟨F, hfd⟩
      have q := h121 z3 own F ⟨hls3, hf3, hF, by rw [eA, eB]; exact hfd, e20, by rw [eA, eB]; exact htk3, by rw [eA, eB]; exact hfs⟩
      clear hc h121 hQ hfs
      rw [e20]
      (repeat' first | with_reducible apply And.intro | with_reducible intro _)
      all_goals first
        | omega
        | exact q
        | (exfalso; omega)
        | trivial
  have hsafe := hls
  obtain ⟨hp, hps, hqu, hwv⟩ := hls
  have hs' : ∀ (z1 : pvM), frF [5, 6, 7, 8, 9, 10, 11, 12, 28, 29, 30, 32] [] z z1 → pzF z1 → (∃ Qs, quF z1 Qs) → lsP z1 ∧ frL lim z z1 := fun z1 f p q => ⟨⟨p, psS_f hps f (by decide) (by decide), q, WvF_f hwv f (by decide) (by decide) (by decide) (by decide)⟩, frL_f f (by decide)⟩
  refine hc 20 _ _ _ _ _ fun _ _ _ => ?_
  clear hc h121 hQ
  simp only [pvStG]
  simp only [C_X9_isIncluded, C_X9_isEmpty, pvE_iload, pvLI_s, pvLd, pvE_if_eq, pvE_aload_n0, pvLA_s, pvE_iload_n1, pvE_invokevirtual, pvC1_s, pvC2_s, pvAf_v, pvAf_x, pvPop, pvCs, pvCat, pvPush, aL_isTaken_127, pvSh_0, pvSh_1, pvSh_2, pvSh_3, pvSh_4, pvSh_5, pvSh_6, pvSh_7, pvSh_8, pvSh_9, pvSh_10, pvSh_11, pvSh_12, pvSh_13, pvSh_14, pvSh_15, pvSh_16, pvSh_17, pvSh_18, pvSh_19, pvSh_20, pvSh_21, pvSh_22, pvSh_23, pvSh_24, pvSh_25, pvSh_26, pvSh_27, pvSh_28, pvSh_29, pvSh_30, pvSh_31, pvSh_32, pvSh_33, pvSh_34, pvSh_35, pvSh_36, pvSh_37, pvSh_38, pvE_goto, aL_isTaken_131, pvE_istore, pvS1, List.length_cons, List.length_nil, pvClr_i, pvClr_r, pvClr_l, pvClr_d, pvClr_f, pvClr_n, pvE_invokestatic (Ex := fun _ => none) (h0 := rfl), aL_isTaken_134, pvE_aload_n2, pvE_iload_n3, pvE_aload, aL_isTaken_138, pvE_if_ge, pvE_iconst, pvE_icmp_ne, pvE_if_ne, pvE_ireturn, aL_isTaken_142, pvE_icmp_lt, pvE_if_lt, pvE_sipush, pvE_idiv, pvE_icmp_eq, pvE_bipush, pvE_astore, pvE_icmp_ge, aL_isTaken_145, pvE_iastore, pvE_iinc, pvIc_s, pvE_iaload, pvE_imul, pvE_iadd, pvE_irem, aL_isTaken_148, pvE_lconst0, pvE_lcmp, aL_isTaken_123, aL_isTaken_152, pvE_isub, bL_isTaken_0, uL_isTaken_0, bL_isTaken_13, uL_isTaken_13, bL_isTaken_18, uL_isTaken_18, bL_isTaken_72, uL_isTaken_72, bL_isTaken_76, uL_isTaken_76, bL_isTaken_77, uL_isTaken_77, bL_isTaken_78, uL_isTaken_78, bL_isTaken_103, uL_isTaken_103, bL_isTaken_119, uL_isTaken_119, bL_isTaken_121, uL_isTaken_121, bL_isTaken_133, uL_isTaken_133, bL_isTaken_136, uL_isTaken_136, bL_isTaken_173, uL_isTaken_173, bL_isTaken_199, uL_isTaken_199, bL_isTaken_240, uL_isTaken_240, bL_isTaken_242, uL_isTaken_242, bL_isTaken_250, uL_isTaken_250, bL_isTaken_272, uL_isTaken_272, bL_isTaken_278, uL_isTaken_278, bL_isTaken_325, uL_isTaken_325, bL_isTaken_329, uL_isTaken_329, bL_isTaken_330, uL_isTaken_330, pvMk_t, pvMk_f, pvMk_n, pvRtG, pvRecv_r, pvUp_nl, pvUp_same, pvUp_ap, pvSt_ap, pvX_c, pvX_ms, pvX_mn, pvE_nil, pvEn_i, pvEn_r, pvEn_l, pvEn_0, pvEn_s, pvRt, pvRv, pvTh, pvKc, pvGo, pvTgt, Int.toNat_natCast, false_and, and_false, true_and, and_true, if_true, if_false, reduceIte, reduceCtorEq, forall_const, false_or, or_false, true_or, or_true, ne_eq, not_true_eq_false, not_false_eq_true, implies_true, false_implies, Nat.reduceAdd, Nat.reduceSub, Nat.reduceMul, Nat.reduceEqDiff, Nat.reduceLT, Nat.reduceLeDiff, Int.reduceAdd, Int.reduceSub, Int.reduceMul, Int.reduceNeg, Int.reduceToNat, Int.reduceLE, Int.reduceLT, Int.reduceEq, Int.reduceNe, and_self]
  rw [eA, eB]
  rcases hdf with rfl | rfl
  · have ebd : bdF 0 B = emA := if_pos rfl
    rw [ebd] at h18
    refine ⟨fun _ => ?_, fun h => absurd rfl h⟩
    refine ⟨hl0, ⟨hp, hps, hqu⟩, fun h => h hs, fun _ z1 Qs f p q => ⟨fun hF => ?_, fun hF => ?_⟩⟩
    · obtain ⟨a1, a2⟩ := hs' z1 f p ⟨Qs, q⟩
      exact h18 z1 0 (Or.inl rfl) a1 a2 (fun _ => rfl)
    · obtain ⟨a1, a2⟩ := hs' z1 f p ⟨Qs, q⟩
      exact h18 z1 1 (Or.inr rfl) a1 a2 (fun h => absurd h hF)
  · have ebd : bdF 1 B = B := if_neg (by decide)
    rw [ebd] at h18
    refine ⟨fun h => absurd h (by decide), fun _ => ?_⟩
    refine ⟨hl0, ⟨hp, hqu⟩, fun h => h hs, fun _ z1 Qs f p q => ⟨fun hF => ?_, fun hF => ?_⟩⟩
    · obtain ⟨a1, a2⟩ := hs' z1 f p ⟨Qs, q⟩
      exact h18 z1 0 (Or.inl rfl) a1 a2 (fun _ => rfl)
    · obtain ⟨a1, a2⟩ := hs' z1 f p ⟨Qs, q⟩
      exact h18 z1 1 (Or.inr rfl) a1 a2 (fun h => absurd h hF)
