/-! a block, a walk, a method -/
def pvTg (pc : Nat) : Instr → Bool
  | .ifCond _ off => decide ((-off).toNat ≤ pc + off.toNat)
  | .if_icmp _ off => decide ((-off).toNat ≤ pc + off.toNat)
  | .ifnull off => decide ((-off).toNat ≤ pc + off.toNat)
  | .ifnonnull off => decide ((-off).toNat ≤ pc + off.toNat)
  | _ => true
def pvChain (cc : ByteArray) : Nat → List (Instr × Nat) → Prop
  | _, [] => True
  | pc, (i, n) :: t => decode cc pc = .ok (i, n) ∧ (pvLn i n = true ∧ pvTg pc i = true) ∧ pvChain cc (pc + n) t
def pvChainB (cc : ByteArray) : Nat → List (Instr × Nat) → Bool
  | _, [] => true
  | pc, (i, n) :: t => decide (decode cc pc = .ok (i, n)) && (pvLn i n && pvTg pc i) && pvChainB cc (pc + n) t
theorem pvChain_of {cc : ByteArray} {pc : Nat} {l : List (Instr × Nat)} (h : pvChainB cc pc l = true) : pvChain cc pc l := by
  induction l generalizing pc with
  | nil => trivial
  | cons q t ih =>
    obtain ⟨i, n⟩ := q
    simp only [pvChainB, Bool.and_eq_true, decide_eq_true_eq] at h
    exact ⟨h.1.1, h.1.2, ih h.2⟩
theorem pvSw_get {J : pvJ} {pc : Nat} {x : Int} {ls : pvL} {st : List pvV} {z : pvM} {g : Nat} {l : List Int} {lo : Int} (h : pvSw J pc x ls st z g l lo) {k : Nat} {off : Int} (hk : l[k]? = some off) (hx : x = lo + k) : pvGo J pc off ls st z g := by
  induction l generalizing lo k with
  | nil => simp at hk
  | cons o t ih =>
    cases k with
    | zero =>
      simp only [List.getElem?_cons_zero, Option.some.injEq] at hk
      subst hk
      exact h.1 (by omega)
    | succ k => exact ih h.2 (by simpa using hk) (by omega)
def pvRk : Instr → Option pvV → Bool
  | .ireturn, some (.inl _) => true
  | .lreturn, some (.inr (.inl _)) => true
  | .areturn, some (.inr (.inr (.inl _))) => true
  | .dreturn, some (.inr (.inr (.inr (.inl _)))) => true
  | .freturn, some (.inr (.inr (.inr (.inr _)))) => true
  | .return_, none => true
  | _, _ => false
/-- at pc, with these locals, this stack, this memory, after g cells more: the machine comes to Qm -/
def pvSW (p : Program) (l : Launch) (e : Env) (R : Room) (s : State) (m : MethodId) (args : Array Value) (below : List Frame) (meth : Method) (c : Code) (Qm : State → Prop)
    (nL : Nat) (L : List Nat) (c0 s0 : Nat) (ad : Nat → Nat) (D : va_G) (cI cJ cD : ClassId) (A : Nat → Prop) : pvJ := fun pc ls st z g =>
  pvOkL ls → pvOkS st → pvRng z → ∀ (H : Heap) (locs : List Loc) (arr : Array Slot), va_P D vwCl (pvWs ad cI cJ cD L z) H → va_S A s.heap H locs → pvLh ad ls arr nL →
    W p l e R s m args below meth c H locs (c0 + g) (s0 + 6 * g) Qm (F0 m pc arr (st.map (pvRe ad)))
theorem pvTgt_eq {pc : Nat} {off : Int} (h : (-off).toNat ≤ pc + off.toNat) : (pc : Int) + off = (pvTgt pc off : Int) := by
  unfold pvTgt
  omega
set_option maxHeartbeats 4000000 in
theorem pvTs_ok {p : Program} {l : Launch} {e : Env} {R : Room} {s : State} {m : MethodId} {args : Array Value} {below : List Frame} {meth : Method} {c : Code} {Qm : State → Prop}
    {own : String} {cc : ByteArray} {nL : Nat} {Tb : List Jvm.Cond} (M : pvMc own cc nL Tb p s m args meth c) {i : Instr} {n pc : Nat} {st st' : List pvV} {o : Prop} {off : Int} (h : pvTs i st = some (o, off, st')) (hd : decode cc pc = .ok (i, n)) (hn : pvLn i n = true) (hg : pvTg pc i = true) (hS : pvOkS st) :
    pvOkS st' ∧ ∀ (ad : Nat → Nat) (H : Heap) (locs : List Loc) (cells slots : Nat) (arr : Array Slot),
      (o → (-off).toNat ≤ pc + off.toNat ∧ W p l e R s m args below meth c H locs cells slots Qm (F0 m (pvTgt pc off) arr (st'.map (pvRe ad)))) →
      (¬ o → W p l e R s m args below meth c H locs cells slots Qm (F0 m (pc + n) arr (st'.map (pvRe ad)))) →
      W p l e R s m args below meth c H locs cells slots Qm (F0 m pc arr (st.map (pvRe ad))) := by
  obtain ⟨hx, hb, hml, hown, hts, hlocks⟩ := M
  have h00 : (0 : Int32) = Int32.ofInt 0 := rfl
  have r0 : pvR 0 := by decide
  cases i <;> first | (cases h; done) | skip
  case ifCond cd off9 =>
    obtain rfl : n = 3 := by simpa [pvLn] using hn
    simp only [pvTs] at h
    split at h
    · rename_i a r
      have ha : pvR a := pvOkS_h hS
      simp only [Option.some.injEq, Prod.mk.injEq] at h
      obtain ⟨rfl, rfl, rfl⟩ := h
      refine ⟨pvOkS_t hS, fun ad H locs cells slots arr kt kf => ?_⟩
      have h0 : (-off9).toNat ≤ pc + off9.toNat := of_decide_eq_true hg
      have ht := pvTgt_eq h0
      cases cd
      case eq => exact lv_if_eq hx hb hd ht (fun q => (kt (by show a = 0; rw [h00, pvN_eq ha r0] at q; exact q)).2) (fun q => kf (by show ¬ a = 0; rw [h00, pvN_eq ha r0] at q; exact q))
      case ne => exact lv_if_ne hx hb hd ht (fun q => (kt (by show ¬ a = 0; rw [h00, pvN_eq ha r0] at q; exact q)).2) (fun q => kf (by show ¬ ¬ a = 0; rw [h00, pvN_eq ha r0] at q; exact fun w => w q))
      case lt => exact lv_if_lt hx hb hd ht (fun q => (kt (by show a < 0; rw [h00, pvN_lt ha r0] at q; exact q)).2) (fun q => kf (by show ¬ a < 0; rw [h00, pvN_lt ha r0] at q; exact q))
      case ge => exact lv_if_ge hx hb hd ht (fun q => (kt (by show 0 ≤ a; rw [h00, pvN_le r0 ha] at q; exact q)).2) (fun q => kf (by show ¬ 0 ≤ a; rw [h00, pvN_le r0 ha] at q; exact q))
      case gt => exact lv_if_gt hx hb hd ht (fun q => (kt (by show 0 < a; rw [h00, pvN_lt r0 ha] at q; exact q)).2) (fun q => kf (by show ¬ 0 < a; rw [h00, pvN_lt r0 ha] at q; exact q))
      case le => exact lv_if_le hx hb hd ht (fun q => (kt (by show a ≤ 0; rw [h00, pvN_le ha r0] at q; exact q)).2) (fun q => kf (by show ¬ a ≤ 0; rw [h00, pvN_le ha r0] at q; exact q))
    · cases h
  case if_icmp cd off9 =>
    obtain rfl : n = 3 := by simpa [pvLn] using hn
    simp only [pvTs] at h
    split at h
    · rename_i b a r
      have hb9 : pvR b := pvOkS_h hS
      have ha : pvR a := pvOkS_h (pvOkS_t hS)
      simp only [Option.some.injEq, Prod.mk.injEq] at h
      obtain ⟨rfl, rfl, rfl⟩ := h
      refine ⟨pvOkS_t (pvOkS_t hS), fun ad H locs cells slots arr kt kf => ?_⟩
      have h0 : (-off9).toNat ≤ pc + off9.toNat := of_decide_eq_true hg
      have ht := pvTgt_eq h0
      cases cd
      case eq => exact lv_icmp_eq hx hb hd ht (fun q => (kt (by show a = b; rw [pvN_eq ha hb9] at q; exact q)).2) (fun q => kf (by show ¬ a = b; rw [pvN_eq ha hb9] at q; exact q))
      case ne => exact lv_icmp_ne hx hb hd ht (fun q => (kt (by show ¬ a = b; rw [pvN_eq ha hb9] at q; exact q)).2) (fun q => kf (by show ¬ ¬ a = b; rw [pvN_eq ha hb9] at q; exact fun w => w q))
      case lt => exact lv_icmp_lt hx hb hd ht (fun q => (kt (by show a < b; rw [pvN_lt ha hb9] at q; exact q)).2) (fun q => kf (by show ¬ a < b; rw [pvN_lt ha hb9] at q; exact q))
      case ge => exact lv_icmp_ge hx hb hd ht (fun q => (kt (by show b ≤ a; rw [pvN_le hb9 ha] at q; exact q)).2) (fun q => kf (by show ¬ b ≤ a; rw [pvN_le hb9 ha] at q; exact q))
      case gt => exact lv_icmp_gt hx hb hd ht (fun q => (kt (by show b < a; rw [pvN_lt hb9 ha] at q; exact q)).2) (fun q => kf (by show ¬ b < a; rw [pvN_lt hb9 ha] at q; exact q))
      case le => exact lv_icmp_le hx hb hd ht (fun q => (kt (by show a ≤ b; rw [pvN_le ha hb9] at q; exact q)).2) (fun q => kf (by show ¬ a ≤ b; rw [pvN_le ha hb9] at q; exact q))
    · cases h
  case ifnull off9 =>
    obtain rfl : n = 3 := by simpa [pvLn] using hn
    simp only [pvTs] at h
    split at h
    · rename_i a r
      simp only [Option.some.injEq, Prod.mk.injEq] at h
      obtain ⟨rfl, rfl, rfl⟩ := h
      exact ⟨pvOkS_t hS, fun ad H locs cells slots arr kt kf => lv_ifnull hx hb hd (kf not_false)⟩
    · cases h
  case ifnonnull off9 =>
    obtain rfl : n = 3 := by simpa [pvLn] using hn
    simp only [pvTs] at h
    split at h
    · rename_i a r
      simp only [Option.some.injEq, Prod.mk.injEq] at h
      obtain ⟨rfl, rfl, rfl⟩ := h
      exact ⟨pvOkS_t hS, fun ad H locs cells slots arr kt kf => lv_ifnonnull hx hb hd (pvTgt_eq (of_decide_eq_true hg)) (kt trivial).2⟩
    · cases h

set_option maxHeartbeats 4000000 in
theorem pvB_ok {p : Program} {l : Launch} {e : Env} {R : Room} {s : State} {m : MethodId} {args : Array Value} {below : List Frame} {meth : Method} {c : Code} {Qm : State → Prop}
    {own : String} {cc : ByteArray} {nL : Nat} {Tb : List Jvm.Cond} {F : pvF} {Ca : pvCa} {Co : pvCo} {Ex : pvEx} {lim : Nat → Prop} {L : List Nat} {c0 s0 Gm : Nat} {sc : Nat × (Nat → Int)} {sx : pvSx} {ad : Nat → Nat} {D : va_G} {cI cJ cD : ClassId} {A : Nat → Prop}
    {J : pvJ} {Rt : Option pvV → pvM → Nat → Prop} {Th : Nat → Nat → pvM → Nat → Prop}
    (M : pvMc own cc nL Tb p s m args meth c) (hTb : ∀ w ∈ Tb, goodWord w = true) (hCo : pvCoOk own Tb Co) (hF : pvFOk own Tb F) (hCl : pvClOk Tb) (hCa : pvCaOk l R own Tb (pvLm L) (pvScx sx) Ca) (hW : pvWc D cI cJ cD sx A s)
    (hL0 : pvWl L) (hsx : ad 60 = sx.1) (hlK : ∀ id, lim id → id ≠ 60 → id ∈ L) (hsc : lim 60 → sc = pvScx sx)
    (hcp : ∀ ix, Ex ix = some 100 ∨ Ex ix = some 101 → (Cond.methodLink own ix arraycopyName).before args s = true ∧ (Cond.native arraycopyName).before args s = true ∧ (Cond.static arraycopyName).before args s = true ∧ (Cond.initialized "java/lang/System").before args s = true ∧ 1 ≤ R.frames ∧ 8 + (nativeFrameWords "java/lang/System" "arraycopy" 5 + 11) ≤ R.locals)
    (hR : c0 + Gm ≤ R.cells ∧ s0 + 6 * Gm ≤ R.slots) (hD : ∀ z, va_D A (pvWs ad cI cJ cD L z))
    (hJ : ∀ pc ls st z g, J pc ls st z g → pvSW p l e R s m args below meth c Qm nL L c0 s0 ad D cI cJ cD A pc ls st z g)
    (hRt : ∀ (i : Instr) (v : Option pvV) (pc g : Nat) (z : pvM), pvRk i v = true → decode cc pc = .ok (i, 1) → Rt v z g → (∀ x, v = some x → pvOk x) → pvRng z → ∀ (H : Heap) (locs : List Loc) (arr : Array Slot), va_P D vwCl (pvWs ad cI cJ cD L z) H → va_S A s.heap H locs →
      W p l e R s m args below meth c H locs (c0 + g) (s0 + 6 * g) Qm (F0 m pc arr (v.map (pvRe ad)).toList))
    (hTx : ∀ (k pc g : Nat) (z : pvM), Th k pc z g → pvRng z → ∀ (H : Heap) (locs : List Loc) (arr : Array Slot) (ls : pvL) (q : Addr) (ce : Cell) (rest : List Value), pvLh ad ls arr nL → va_P D vwCl (pvWs ad cI cJ cD L z) H → va_S A s.heap H locs → H[q]? = some ce → ce.vm = .none → s.vm.findClass (pvXn k) = some ce.cls →
      vx_W p l e R s m args below meth c H locs (c0 + g + 1) (s0 + 6 * g + 6) Qm (F0 m pc arr rest) q)
    (hNw : ∀ (ix ic k pc g : Nat) (z : pvM), Ex ix = some k → k < 4 → decode cc pc = .ok (.new ix, 3) → decode cc (pc + 3) = .ok (.dup, 1) → decode cc (pc + 4) = .ok (.invokespecial ic, 3) → decode cc (pc + 7) = .ok (.athrow, 1) → g < Gm → Th k (pc + 7) z g → pvRng z →
      ∀ (H : Heap) (locs : List Loc) (arr : Array Slot), va_P D vwCl (pvWs ad cI cJ cD L z) H → va_S A s.heap H locs → arr.size = nL → W p l e R s m args below meth c H locs (c0 + g) (s0 + 6 * g) Qm (F0 m pc arr [])) :
    ∀ (cs : List (Instr × Nat)) (pc : Nat) (ls : pvL) (st : List pvV) (z : pvM) (g : Nat), pvChain cc pc cs → pvB lim sc F Ca Co Ex Gm J Rt Th cs pc ls st z g → pvSW p l e R s m args below meth c Qm nL L c0 s0 ad D cI cJ cD A pc ls st z g := by
  intro cs
  induction cs with
  | nil => exact fun pc ls st z g _ h => hJ pc ls st z g h
  | cons q cs ih =>
    obtain ⟨i, n⟩ := q
    intro pc ls st z g hc h hL hS hz H locs arr hP hSS hl
    have hc9 := hc
    obtain ⟨hd, ⟨hn, hg⟩, hch⟩ := hc
    have M9 := M
    obtain ⟨hx, hb, hml, hown, hts, hlocks⟩ := M9
    simp only [pvB] at h
    split at h
    · rename_i o ls' st' hA
      obtain ⟨ho, hk⟩ := h
      obtain ⟨h1, h2, h3⟩ := pvA_ok M hCo hA ho hd hn hL hS
      exact h3 ad H locs _ _ arr hl (fun arr' hl' => ih _ _ _ _ _ hch hk h1 h2 hz H locs arr' hP hSS hl')
    · rename_i hA9
      split at h
      · rename_i o st' z' hH
        obtain ⟨ho, hk⟩ := h
        obtain ⟨h1, h2, h3⟩ := pvHp_ok M hF hCl hW.1 hL0 hlK (fun h9 => ⟨hsc h9, hsx, hW.2.2.2.2.2.2.2.2.1⟩) hcp hH ho hd hn hS hz
        exact h3 H locs _ _ ls arr hP (hD z) hSS hl (fun H' locs' hP' hS' => ih _ _ _ _ _ hch hk hL h1 h2 H' locs' arr hP' hS' hl)
      · rename_i hH9
        split at h
        · rename_i o off st' hT
          obtain ⟨h1, h2⟩ := pvTs_ok M hT hd hn hg hS
          exact h2 ad H locs _ _ arr (fun ho => ⟨(h.1 ho).1, hJ _ _ _ _ _ (h.1 ho).2 hL h1 hz H locs arr hP hSS hl⟩) (fun ho => ih _ _ _ _ _ hch (h.2 ho) hL h1 hz H locs arr hP hSS hl)
        · rename_i hT9
          clear hA9 hH9 hT9
          cases i <;> first | (exact False.elim h) | skip
          case goto off =>
            obtain rfl : n = 3 := by simpa [pvLn] using hn
            exact lv_goto hx hb hd (pvTgt_eq h.1) (hJ _ _ _ _ _ h.2 hL hS hz H locs arr hP hSS hl)
          case tableswitch d lo hi offs =>
            dsimp only at h
            split at h
            · rename_i x r
              have hxr : pvR x := pvOkS_h hS
              obtain ⟨e1, e2, e3⟩ := h
              by_cases ho : x < lo ∨ hi < x
              · exact lv_tableOut hx hb hd (by rw [pvN_i hxr]; exact ho) (pvTgt_eq (e2 ho).1) (hJ _ _ _ _ _ (e2 ho).2 hL (pvOkS_t hS) hz H locs arr hP hSS hl)
              · have hlt : (x - lo).toNat < offs.size := by omega
                have hof : offs[(x - lo).toNat]? = some (offs[(x - lo).toNat]'hlt) := Array.getElem?_eq_getElem hlt
                have e4 := pvSw_get (k := (x - lo).toNat) e3 (by rw [Array.getElem?_toList]; exact hof) (by omega)
                exact lv_tableIn hx hb hd (by rw [pvN_i hxr]; omega) (by rw [pvN_i hxr]; omega) (by rw [pvN_i hxr]; exact hof) (pvTgt_eq e4.1) (hJ _ _ _ _ _ e4.2 hL (pvOkS_t hS) hz H locs arr hP hSS hl)
            · exact h.elim
          case invokevirtual ix =>
            obtain rfl : n = 3 := by simpa [pvLn] using hn
            exact pvCall_ok M hTb hCa hW hlK hL0 hsx hR h hd hS hz hl hP (hD z) hSS
              (fun st' z' g' hk hS' hz' H' locs' hP' hSS' => ih _ _ _ _ _ hch hk hL hS' hz' H' locs' arr hP' hSS' hl)
              (fun k z' g' hk hz' H' locs' q ce rest hP' hSS' h1 h2 h3 => hTx k pc g' z' hk hz' H' locs' arr ls q ce rest hl hP' hSS' h1 h2 h3)
          case invokestatic ix =>
            obtain rfl : n = 3 := by simpa [pvLn] using hn
            exact pvCall_ok M hTb hCa hW hlK hL0 hsx hR h hd hS hz hl hP (hD z) hSS
              (fun st' z' g' hk hS' hz' H' locs' hP' hSS' => ih _ _ _ _ _ hch hk hL hS' hz' H' locs' arr hP' hSS' hl)
              (fun k z' g' hk hz' H' locs' q ce rest hP' hSS' h1 h2 h3 => hTx k pc g' z' hk hz' H' locs' arr ls q ce rest hl hP' hSS' h1 h2 h3)
          case ireturn =>
            obtain rfl : n = 1 := by simpa [pvLn] using hn
            dsimp only at h
            split at h
            · rename_i a
              exact hRt _ (some (vI a)) pc g z rfl hd h (fun x hx => by cases hx; exact pvOkS_h hS) hz H locs arr hP hSS
            · exact h.elim
          case lreturn =>
            obtain rfl : n = 1 := by simpa [pvLn] using hn
            dsimp only at h
            split at h
            · rename_i a
              exact hRt _ (some (vL a)) pc g z rfl hd h (fun x hx => by cases hx; exact pvOkS_h hS) hz H locs arr hP hSS
            · exact h.elim
          case areturn =>
            obtain rfl : n = 1 := by simpa [pvLn] using hn
            dsimp only at h
            split at h
            · rename_i a
              exact hRt _ (some (vR a)) pc g z rfl hd h (fun x hx => by cases hx; exact pvOkS_h hS) hz H locs arr hP hSS
            · exact h.elim
          case dreturn =>
            obtain rfl : n = 1 := by simpa [pvLn] using hn
            dsimp only at h
            split at h
            · rename_i a
              exact hRt _ (some (vD a)) pc g z rfl hd h (fun x hx => by cases hx; exact pvOkS_h hS) hz H locs arr hP hSS
            · exact h.elim
          case freturn =>
            obtain rfl : n = 1 := by simpa [pvLn] using hn
            dsimp only at h
            split at h
            · rename_i a
              exact hRt _ (some (vF a)) pc g z rfl hd h (fun x hx => by cases hx; exact pvOkS_h hS) hz H locs arr hP hSS
            · exact h.elim
          case return_ =>
            obtain rfl : n = 1 := by simpa [pvLn] using hn
            dsimp only at h
            split at h
            · exact hRt _ none pc g z rfl hd h (fun x hx => by cases hx) hz H locs arr hP hSS
            · exact h.elim
          case new ix =>
            obtain rfl : n = 3 := by simpa [pvLn] using hn
            dsimp only at h
            split at h
            · rename_i k ic cs' hE
              obtain ⟨rfl, hk4, hgm, hth⟩ := h
              exact hNw ix ic k pc g z hE hk4 hd hc9.2.2.1 hc9.2.2.2.2.1 hc9.2.2.2.2.2.2.1 hgm hth hz H locs arr hP hSS hl.1.1
            · exact h.elim
