/-! the law's wrappers over the machine: one theorem for all -/
theorem pvPush_inj {v w : Option pvV} {rest : List pvV} (h : pvPush v rest = pvPush w rest) : v = w := by
  cases v with
  | none =>
    cases w with
    | none => rfl
    | some w => exact absurd (congrArg List.length h) (by simp [pvPush])
  | some v =>
    cases w with
    | none => exact absurd (congrArg List.length h) (by simp [pvPush])
    | some w => simp [pvPush] at h; rw [h]
theorem pvXn_inj : ∀ j k : Nat, j < 4 → k < 4 → pvXn j = pvXn k → j = k := by
  have h : ∀ j k : Fin 4, pvXn j = pvXn k → j = k := by decide +kernel
  intro j k hj hk e
  exact congrArg Fin.val (h ⟨j, hj⟩ ⟨k, hk⟩ e)
theorem idx_get (k : Nat) : ∀ l : List Nat, k ∈ l → l[l.idxOf k]? = some k
  | [], h => absurd h List.not_mem_nil
  | a :: t, h => by
    by_cases e : a = k
    · simp [List.idxOf_cons, e]
    · have h2 : k ∈ t := by
        rcases List.mem_cons.mp h with h | h
        · exact absurd h.symm e
        · exact h
      have e2 : (a :: t).idxOf k = t.idxOf k + 1 := by
        rw [List.idxOf_cons, show (a == k) = false from beq_false_of_ne e]
        rfl
      rw [e2]
      simpa using idx_get k t h2
/-- what a handler's code is: keep the exception, answer its number -/
def pvHd (cc : ByteArray) (nL hp i : Nat) : Prop := (∃ k : Nat, k < nL ∧ ((∃ q : Fin 4, (q : Nat) = k ∧ decode cc hp = .ok (.astore_n q, 1) ∧ decode cc (hp + 1) = .ok (.iconst ((i : Int) + 1), 1) ∧ decode cc (hp + 2) = .ok (.ireturn, 1)) ∨ (decode cc hp = .ok (.astore k, 2) ∧ decode cc (hp + 2) = .ok (.iconst ((i : Int) + 1), 1) ∧ decode cc (hp + 3) = .ok (.ireturn, 1))))
set_option maxHeartbeats 4000000 in
theorem pvMetW_of {l : Launch} {y : MethodName} {cc : ByteArray} {nL : Nat} {hh : List (Nat × Nat × Nat × Nat)} {rm : Room} {C C9 : pvC} {F : pvF} {Ca : pvCa} {Co : pvCo} {blk : Nat → List (Instr × Nat)} (ix9 n9 pcall : Nat) (l9 : List Nat)
    (hy : plainName y.cls = true) (hCo : pvCoOk y.cls pvTb Co) (hF : pvFOk y.cls pvTb F) (hCa : pvCaOk l rm y.cls pvTb 60 Ca) (hC9 : Ca ix9 = some (n9, false, 8, 0, C9)) (hrm : rm.cells = 1 ∧ rm.slots = 6) (hblk : ∀ pc, pvChain cc pc (blk pc))
    (hdc : decode cc pcall = .ok (.invokevirtual ix9, 3)) (hlen : hh.length = l9.length) (hl4 : l9.length ≤ 4) (hnd : l9.Nodup) (h4 : ∀ k ∈ l9, k < 4)
    (hhd : ∀ i (x : Nat × Nat × Nat × Nat) (k : Nat), hh[i]? = some x → l9[i]? = some k → (x.1 ≤ pcall ∧ pcall < x.2.1 ∧ x.2.2.2 ≠ 0 ∧ pvHd cc nL x.2.2.1 i) ∧ Cond.classLink y.cls x.2.2.2 (pvXn k) ∈ pvTb)
    (H0 : ∀ as z Q, C as z Q → pvOkS as → pvCs as ≤ nL ∧ ∃ (a9 rest st9 : List pvV) (Q0 : pvO → pvM → Prop), pvPop n9 st9 [] = some (a9, rest) ∧ pvCs rest ≤ 8 ∧ pvRecv 60 8 a9 ∧ C9 a9 z Q0 ∧
      pvB 60 (0, fun _ => 0) F Ca Co pvEx0 1 (fun pc ls' st z' g => pc = pcall ∧ ls' = pvEn as nL ∧ st = st9 ∧ z' = z ∧ g = 0) (fun _ _ _ => False) (fun _ _ _ _ => False) (blk 0) 0 (pvEn as nL) [] z 0 ∧
      (∀ v z', Q0 (.inl v) z' → (∀ x, v = some x → pvOk x) → pvB 60 (0, fun _ => 0) F Ca Co pvEx0 1 (pvX 60 (0, fun _ => 0) F Ca Co pvEx0 1 (pvRt (some .int) Q) (fun _ _ _ _ => False) blk (fun _ => none) (fun _ _ _ _ => False) 9) (pvRt (some .int) Q) (fun _ _ _ _ => False) (blk (pcall + 3)) (pcall + 3) (pvEn as nL) (pvPush v rest) z' 0) ∧
      (∀ k z', Q0 (.inr k) z' → k ∈ l9 ∧ Q (.inl (some (vI (hfF l9 k)))) z')) :
    pvMetW l y (Cond.codeWith y cc nL (some .int) hh :: pvTb) rm C := by
  intro ad D cI cJ cD K A as z Q hK hK' hOk hz hC
  have hM : vx_Met l y (Cond.codeWith y cc nL (some .int) hh :: pvTb) rm (va_Pc (as.map (pvRe ad)) (pvPw ad D cI cJ cD K A z)) (pvQc ad D cI cJ cD K A 1 Q) (fun _ _ _ => False) 1 6 A := by
    refine vx_ofWH (cc := cc) (maxL := nL) (ret := some .int) (hh := hh) hy rfl ?_
    intro p e s m args below meth c s₁ B hml hv
    obtain ⟨rfl, hWc, hP, hD⟩ := hv
    have hx := B.exec
    have hb := B.bytes
    have hr := B.returns
    have hts0 := atoms_spec (ws := Cond.codeWith y cc nL (some .int) hh :: pvTb) B.pre
    have hts : ∀ w ∈ pvTb, w.before (as.map (pvRe ad)).toArray s = true := fun w hw => hts0 w (List.mem_cons_of_mem _ hw)
    have hown : s.vm.findClass y.cls = some m.cls := findClass_of_methodNamed B.named
    have hlocks := B.notSynchronized
    have M : pvMc y.cls cc nL pvTb p s m (as.map (pvRe ad)).toArray meth c := ⟨hx, hb, hml, hown, hts, hlocks⟩
    have htab : c.exceptionTable.toList = tableOf hh := vx_table (x := y) B (hts0 _ List.mem_cons_self)
    let Qm : State → Prop := vx_MQ below (pvQc ad D cI cJ cD K A 1 Q) (fun _ _ _ => False) (as.map (pvRe ad)).toArray s 1 6 A
    let SWm : pvJ := pvSW p l e rm s m (as.map (pvRe ad)).toArray below meth c Qm nL K 0 0 ad D cI cJ cD A
    have hD' : ∀ z, va_D A (pvWs ad cI cJ cD K z) := fun z' => pvD_any hD
    have hfin : ∀ (a : Int) (pc : Nat) (z' : pvM) (H : Heap) (locs : List Loc) (arr : Array Slot) (cells slots : Nat), cells ≤ 1 → slots ≤ 6 → decode cc pc = .ok (.ireturn, 1) → pvR a → pvRng z' → Q (.inl (some (vI a))) z' → va_P D vwCl (pvWs ad cI cJ cD K z') H → va_S A s.heap H locs →
        W p l e rm s m (as.map (pvRe ad)).toArray below meth c H locs cells slots Qm (F0 m pc arr [.int (Int32.ofInt a)]) := by
      intro a pc z' H locs arr cells slots hc1 hs1 hd ha hrz hq hP' hSS
      refine W.widen hc1 hs1 (vx_ret (W.iret hx hb hr (fun t ht hW => ?_) hSS.2.2 hd hlocks))
      exact ⟨some (vI a), z', rfl, fun x hx => by cases hx; exact ha, hrz, hq, by rw [ht]; exact hP', hSS.F ht, fun h => absurd h (by decide)⟩
    -- what is caught
    have hex : ∀ (k : Nat) (z' : pvM), k ∈ l9 ∧ Q (.inl (some (vI (hfF l9 k)))) z' → pvRng z' → ∀ (H : Heap) (locs : List Loc) (arr : Array Slot) (ls : pvL) (q : Addr) (ce : Cell) (rest : List Value), pvLh ad ls arr nL → va_P D vwCl (pvWs ad cI cJ cD K z') H → va_S A s.heap H locs → H[q]? = some ce → ce.vm = .none → s.vm.findClass (pvXn k) = some ce.cls →
        vx_W p l e rm s m (as.map (pvRe ad)).toArray below meth c H locs 1 6 Qm (F0 m pcall arr rest) q := by
      intro k z' ⟨hk, hq⟩ hrz H locs arr ls q ce rest hl hP' hSS h1 h2 h3
      have hi := List.idxOf_lt_length_of_mem hk
      obtain ⟨i, ei⟩ : ∃ i, l9.idxOf k = i := ⟨_, rfl⟩
      rw [ei] at hi
      have hki : l9[i]? = some k := by rw [← ei]; exact idx_get k l9 hk
      obtain ⟨x, hxi⟩ : ∃ x, hh[i]? = some x := ⟨_, List.getElem?_eq_getElem (by rw [hlen]; exact hi)⟩
      obtain ⟨⟨x1, x2, x3, x4⟩, x5⟩ := hhd i x k hxi hki
      have hsplit : tableOf hh = (tableOf hh).take i ++ (⟨x.1, x.2.1, x.2.2.1, x.2.2.2⟩ : ExceptionTableEntry) :: (tableOf hh).drop (i + 1) := by
        have hlt : i < (tableOf hh).length := by simp [tableOf]; rw [hlen]; exact hi
        have he : (tableOf hh)[i] = (⟨x.1, x.2.1, x.2.2.1, x.2.2.2⟩ : ExceptionTableEntry) := by
          have h9 : (tableOf hh)[i]? = some (⟨x.1, x.2.1, x.2.2.1, x.2.2.2⟩ : ExceptionTableEntry) := by
            unfold tableOf
            rw [List.getElem?_map, hxi]
            rfl
          exact (List.getElem?_eq_some_iff.mp h9).2
        rw [← he, ← List.drop_eq_getElem_cons hlt, List.take_append_drop]
      refine vx_catch (name := pvXn k) (E := pvXn k) hown _ _ _ (htab.trans hsplit) ?_ ?_ x3 (hts _ x5) (va_Nw.use rfl (hWc.2.2.2.2.1 _ pvXn_cast)) h1 h2 h3 ?_
      · intro w hw
        right
        obtain ⟨j, hj, rfl⟩ := List.getElem_of_mem hw
        have hj1 : j < i := by
          have := hj
          rw [List.length_take] at this
          omega
        obtain ⟨x', hx'⟩ : ∃ x', hh[j]? = some x' := ⟨_, List.getElem?_eq_getElem (by rw [hlen]; omega)⟩
        obtain ⟨k', hk'⟩ : ∃ k', l9[j]? = some k' := ⟨_, List.getElem?_eq_getElem (by omega)⟩
        obtain ⟨⟨y1, y2, y3, y4⟩, y5⟩ := hhd j x' k' hx' hk'
        have he : ((tableOf hh).take i)[j] = (⟨x'.1, x'.2.1, x'.2.2.1, x'.2.2.2⟩ : ExceptionTableEntry) := by
          have h9 : ((tableOf hh).take i)[j]? = some (⟨x'.1, x'.2.1, x'.2.2.1, x'.2.2.2⟩ : ExceptionTableEntry) := by
            rw [List.getElem?_take_of_lt hj1]
            unfold tableOf
            rw [List.getElem?_map, hx']
            rfl
          exact (List.getElem?_eq_some_iff.mp h9).2
        rw [he]
        refine ⟨y3, pvXn k', hts _ y5, hWc.2.2.2.2.2.2.1 _ pvXn_cast _ pvXn_cast fun e9 => ?_⟩
        have e8 := pvXn_inj k k' (h4 k hk) (h4 k' (List.mem_of_getElem? hk')) e9
        subst e8
        have a1 := (List.getElem?_eq_some_iff.mp hk').2
        have a2 := (List.getElem?_eq_some_iff.mp hki).2
        exact (List.pairwise_iff_getElem.mp hnd j i _ _ hj1) (a1.trans a2.symm)
      · show covers (⟨x.1, x.2.1, x.2.2.1, x.2.2.2⟩ : ExceptionTableEntry) pcall = true
        simp [covers, x1, x2]
      · have hh0 : lv_has arr nL [] := lv_has_sub hl.1 (fun _ h => absurd h List.not_mem_nil)
        have hfk : hfF l9 k = (i : Int) + 1 := by unfold hfF; rw [ei]
        rw [hfk] at hq
        have hpr : pvR ((i : Int) + 1) := by
          constructor <;> omega
        obtain ⟨k9, hk9, ⟨q4, e4, d1, d2, d3⟩ | ⟨d1, d2, d3⟩⟩ := x4
        · refine lv_astore_n hx hb d1 e4 hh0 hk9 rfl fun ls' hl' => ?_
          refine lv_iconst hx hb d2 rfl ?_
          exact hfin _ _ z' H locs _ _ _ (Nat.le_refl _) (Nat.le_refl _) d3 hpr hrz hq hP' hSS
        · refine lv_astore hx hb d1 hh0 hk9 rfl fun ls' hl' => ?_
          refine lv_iconst hx hb d2 rfl ?_
          exact hfin _ _ z' H locs _ _ _ (Nat.le_refl _) (Nat.le_refl _) d3 hpr hrz hq hP' hSS
    have hsc : pvScOk 60 (0, fun _ => 0) ad A s := fun h => absurd h (by decide)
    have hR : 0 + 1 ≤ rm.cells ∧ 0 + 6 * 1 ≤ rm.slots := by rw [hrm.1, hrm.2]; exact ⟨Nat.le_refl _, Nat.le_refl _⟩
    have hNw : ∀ {Th : Nat → Nat → pvM → Nat → Prop} (ix ic k pc g : Nat) (z : pvM), pvEx0 ix = some k → k < 4 → decode cc pc = .ok (.new ix, 3) → decode cc (pc + 3) = .ok (.dup, 1) → decode cc (pc + 4) = .ok (.invokespecial ic, 3) → decode cc (pc + 7) = .ok (.athrow, 1) → g < 1 → Th k (pc + 7) z g → pvRng z →
        ∀ (H : Heap) (locs : List Loc) (arr : Array Slot), va_P D vwCl (pvWs ad cI cJ cD K z) H → va_S A s.heap H locs → arr.size = nL → W p l e rm s m (as.map (pvRe ad)).toArray below meth c H locs (0 + g) (0 + 6 * g) Qm (F0 m pc arr []) := by
      intro Th ix ic k pc g z h
      cases (show (none : Option Nat) = some k from h)
    obtain ⟨hcs, a9, rest, st9, Q0, hpop, hrc, hrec, h9, hpre, hsuf, hthr⟩ := H0 as z Q hC hOk
    -- the end
    have hRt : ∀ (i : Instr) (v : Option pvV) (pc g : Nat) (z : pvM), pvRk i v = true → decode cc pc = .ok (i, 1) → pvRt (some .int) Q v z g → (∀ x, v = some x → pvOk x) → pvRng z → ∀ (H : Heap) (locs : List Loc) (arr : Array Slot), va_P D vwCl (pvWs ad cI cJ cD K z) H → va_S A s.heap H locs →
        W p l e rm s m (as.map (pvRe ad)).toArray below meth c H locs (0 + g) (0 + 6 * g) Qm (F0 m pc arr (v.map (pvRe ad)).toList) := by
      intro i v pc g z' hrk hd hret hok hrz H locs arr hP' hSS
      obtain ⟨rfl, hrv, hq⟩ := hret
      rcases v with _ | (a | a | a | a | a)
      · exact hrv.elim
      · cases i <;> first | (cases hrk; done) | skip
        exact hfin a pc z' H locs arr _ _ (by omega) (by omega) hd (hok _ rfl) hrz hq hP' hSS
      · exact hrv.elim
      · exact hrv.elim
      · exact hrv.elim
      · exact hrv.elim
    have hX : ∀ (n pc : Nat) (ls : pvL) (st : List pvV) (z : pvM) (g : Nat), pvX 60 (0, fun _ => 0) F Ca Co pvEx0 1 (pvRt (some .int) Q) (fun _ _ _ _ => False) blk (fun _ => none) (fun _ _ _ _ => False) n pc ls st z g → SWm pc ls st z g := by
      intro n
      induction n with
      | zero => exact fun _ _ _ _ _ h => False.elim h
      | succ n ih =>
        intro pc ls st z' g h
        simp only [pvX] at h
        exact pvB_ok M pvTb_g hCo hF pvCl hCa hWc (by omega) (Or.inl hK) ⟨by omega, hK'⟩ hsc (fun ix h => by rcases h with h | h <;> cases (show (none : Option Nat) = some _ from h)) hR hD' (fun _ _ _ _ _ h => ih _ _ _ _ _ h) hRt (fun k pc g z h => False.elim h) (hNw (Th := fun _ _ _ _ => False)) _ _ _ _ _ _ (hblk pc) h
    have hcall : ∀ (pc : Nat) (ls' : pvL) (st : List pvV) (z' : pvM) (g : Nat), (pc = pcall ∧ ls' = pvEn as nL ∧ st = st9 ∧ z' = z ∧ g = 0) → SWm pc ls' st z' g := by
      rintro pc ls' st z' g ⟨rfl, rfl, rfl, rfl, rfl⟩
      intro hL hS hz' H locs arr hP' hSS hl
      refine pvCall_ok (Ca := Ca) (ix := ix9) (sta := false) (c0 := 0) (s0 := 0) (Gm := 1) (g := 0) (kx := fun k z' g' => g' = 0 ∧ Q0 (.inr k) z') (kk := fun st' z' g' => g' = 0 ∧ ∃ v, st' = pvPush v rest ∧ Q0 (.inl v) z') M pvTb_g hCa hWc (Or.inl hK) ⟨by omega, hK'⟩ hR ?_ hdc hS hz' hl hP' (hD' _) hSS ?_ ?_
      · unfold pvCall
        rw [hC9]
        show false = false ∧ 0 < 1 ∧ _
        rw [hpop]
        refine ⟨rfl, by decide, hrc, fun _ => hrec, ?_⟩
        have e : (pvKk (fun v z' => 0 + 0 = 0 ∧ ∃ v', pvPush v rest = pvPush v' rest ∧ Q0 (.inl v') z') (fun k z' => 0 = 0 ∧ Q0 (.inr k) z') : pvO → pvM → Prop) = Q0 := by
          funext o z9
          cases o with
          | inl v => exact propext ⟨fun h => by obtain ⟨-, v', e1, e2⟩ := h; rw [pvPush_inj e1]; exact e2, fun h => ⟨rfl, v, rfl, h⟩⟩
          | inr k => exact propext ⟨fun h => h.2, fun h => ⟨rfl, h⟩⟩
        rw [e]
        exact h9
      · rintro st' z9 g' ⟨rfl, v, rfl, hq⟩ hS9 hz9 H' locs' hP9 hSS9
        have hv : ∀ x, v = some x → pvOk x := fun x hx => hS9 x (by rw [hx]; exact List.mem_cons_self)
        exact pvB_ok M pvTb_g hCo hF pvCl hCa hWc (by omega) (Or.inl hK) ⟨by omega, hK'⟩ hsc (fun ix h => by rcases h with h | h <;> cases (show (none : Option Nat) = some _ from h)) hR hD' (fun _ _ _ _ _ h => hX 9 _ _ _ _ _ h) hRt (fun k pc g z h => False.elim h) (hNw (Th := fun _ _ _ _ => False)) _ _ _ _ _ _ (hblk (pc + 3)) (hsuf v z9 hq hv) hL hS9 hz9 H' locs' arr hP9 hSS9 hl
      · rintro k z9 g' ⟨rfl, hq⟩ hz9 H' locs' q ce rest9 hP9 hSS9 h1 h2 h3
        exact hex k z9 (hthr k z9 hq) hz9 H' locs' arr (pvEn as nL) q ce rest9 hl hP9 hSS9 h1 h2 h3
    have hgo := pvB_ok (Rt := fun _ _ _ => False) (Th := fun _ _ _ _ => False) M pvTb_g hCo hF pvCl hCa hWc (by omega) (Or.inl hK) ⟨by omega, hK'⟩ hsc (fun ix h => by rcases h with h | h <;> cases (show (none : Option Nat) = some _ from h)) hR hD' hcall (fun i v pc g z _ _ h => False.elim h) (fun k pc g z h => False.elim h) (hNw (Th := fun _ _ _ _ => False)) _ _ _ _ _ _ (hblk 0) hpre
    rw [lg_entry_eq]
    exact hgo (pvEn_ok _ hOk) (fun v hv => absurd hv List.not_mem_nil) hz s.heap [] _ hP va_S.rf (pvLh_en hcs)
  refine MetFree.mono hM (fun _ _ h => h) (fun _ _ _ _ _ h => h) (fun _ _ _ _ _ h => ?_)
  rcases h with ⟨h1, h2⟩ | ⟨q, rfl, E, ce, L, h1, -⟩
  · exact ⟨h1, h2⟩
  · exact h1.elim
