/-! take, over the machine -/
theorem pvPush_inj {v w : Option pvV} {rest : List pvV} (h : pvPush v rest = pvPush w rest) : v = w := by
  cases v with
  | none =>
    cases w with
    | none => rfl
    | some w => exact absurd (congrArg List.length h) (by simp [pvPush])
  | some v =>
    cases w with
    | none => exact absurd (congrArg List.length h) (by simp [pvPush])
    | some w => simp [pvPush] at h; rw [h]
theorem pnL_take : pvPn yL_take = some 3 := by decide +kernel
theorem caL_take {l : Launch} (hf : l.stackTraces = false) (lm : Nat → Prop) (sc : Nat × (Nat → Int)) : pvCaOk l mL_take "EventClockWorkbenchLaw" pvTb lm sc (aL_take lm sc) := by
  refine pvCaOk_i fun ix n b ci co C h => ?_
  unfold aL_take at h
  split at h
  · cases h; exact pvCe_V (k := 1) (T := TX9) (N := 11) (metX9_takeDifference hf) rfl wd_1_1 rfl wd_5_37 wd_5_38 wd_5_39 pnX9_takeDifference rfl wd_5_40
  · cases h; exact pvCe_V (k := 1) (T := TX9) (N := 11) (metX9_takeWitness hf) rfl wd_1_1 rfl wd_5_93 wd_5_94 wd_5_95 pnX9_takeWitness rfl wd_5_96
  · cases h
def tkQ (Q : pvO → pvM → Prop) : pvO → pvM → Prop := fun o z' => match o with
  | .inl v => ∃ a : Int, v = some (vI a) ∧ Q (.inl (some (vI a))) z'
  | .inr k => k = 3 ∧ Q (.inl (some (vI (-1)))) z'
theorem take_call {lim : Nat → Prop} {sc : Nat × (Nat → Int)} {as : List pvV} {z : pvM} {Q : pvO → pvM → Prop} (h : C_L_take lim sc as z Q) : ∃ s df : Int, as = [vR 0, vI s, vI df] ∧ lim 0 ∧ ((df = 0 ∧ C_X9_takeWitness [vR 0, vI s] z (tkQ Q)) ∨ (df = 1 ∧ C_X9_takeDifference [vR 0, vI s] z (tkQ Q))) := by
  unfold C_L_take at h
  split at h
  · rename_i id s df
    obtain ⟨rfl, ⟨h0, hs, hdf, h1, h2, ⟨Qs, h3⟩, h4⟩, hQ⟩ := h
    refine ⟨s, df, rfl, h0, ?_⟩
    have hl : ∀ (z' : pvM) (Qs' : List Int) (ids jds : List Nat), pzF z' → quF z' Qs' → frF ids jds z z' → 13 ∉ ids → 14 ∉ ids → WvF z'.1 → lsP z' := fun z' Qs' ids jds p q f a b w => ⟨p, psS_f h2 f a b, ⟨Qs', q⟩, w⟩
    rcases hdf with rfl | rfl
    · refine Or.inl ⟨rfl, rfl, ⟨h1, h2, Qs, h3⟩, fun n => absurd hs n, fun _ z' Qs' p q => ⟨fun hn f => ⟨rfl, (hQ z' (hl z' Qs' _ _ p q f (by decide) (by decide) (WvF_f h4 f (by decide) (by decide) (by decide) (by decide)))).1 hn f⟩, fun F hF hd f w e hj => ⟨(F : Int), rfl, (hQ z' (hl z' Qs' _ _ p q f (by decide) (by decide) w)).2 F hF hd f e hj⟩⟩⟩
    · refine Or.inr ⟨rfl, rfl, ⟨h1, Qs, h3⟩, fun n => absurd hs n, fun _ z' Qs' A B eA eB p q => ?_⟩
      subst eA eB
      exact ⟨fun hn f => ⟨rfl, (hQ z' (hl z' Qs' _ _ p q f (by decide) (by decide) (WvF_f h4 f (by decide) (by decide) (by decide) (by decide)))).1 hn f⟩, fun F hF hd f w e hj => ⟨(F : Int), rfl, (hQ z' (hl z' Qs' _ _ p q f (by decide) (by decide) w)).2 F hF hd f e hj⟩⟩
  · exact h.elim
set_option maxHeartbeats 4000000 in
theorem metWL_take {l : Launch} (hf : l.stackTraces = false) : pvMetW l yL_take (Cond.codeWith yL_take cL_take 4 (some .int) [(0, 17, 18, 115), (0, 17, 22, 117)] :: pvTb) mL_take 1 C_L_take := by
  intro ad D cI cJ cD sx L A as z Q hL0 hsx hOk hz hC
  have hM : vx_Met l yL_take (Cond.codeWith yL_take cL_take 4 (some .int) [(0, 17, 18, 115), (0, 17, 22, 117)] :: pvTb) mL_take (va_Pc (as.map (pvRe ad)) (pvPw ad D cI cJ cD sx L A z)) (pvQc ad D cI cJ cD L A 1 Q) (fun _ _ _ => False) 1 6 A := by
    refine vx_ofWH (cc := cL_take) (maxL := 4) (ret := some .int) (hh := [(0, 17, 18, 115), (0, 17, 22, 117)]) (by decide +kernel) rfl ?_
    intro p e s m args below meth c s₁ B hml hv
    obtain ⟨rfl, hWc, hP, hD⟩ := hv
    obtain ⟨s9, df, rfl, hl0, hcalls⟩ := take_call hC
    have hx := B.exec
    have hb := B.bytes
    have hr := B.returns
    have hts0 := atoms_spec (ws := Cond.codeWith yL_take cL_take 4 (some .int) [(0, 17, 18, 115), (0, 17, 22, 117)] :: pvTb) B.pre
    have hts : ∀ w ∈ pvTb, w.before ([vR 0, vI s9, vI df].map (pvRe ad)).toArray s = true := fun w hw => hts0 w (List.mem_cons_of_mem _ hw)
    have hown : s.vm.findClass yL_take.cls = some m.cls := findClass_of_methodNamed B.named
    have hlocks := B.notSynchronized
    have M : pvMc yL_take.cls cL_take 4 pvTb p s m ([vR 0, vI s9, vI df].map (pvRe ad)).toArray meth c := ⟨hx, hb, hml, hown, hts, hlocks⟩
    have htab : c.exceptionTable.toList = tableOf [(0, 17, 18, 115), (0, 17, 22, 117)] := vx_table (x := yL_take) B (hts0 _ List.mem_cons_self)
    let Qm : State → Prop := vx_MQ below (pvQc ad D cI cJ cD L A 1 Q) (fun _ _ _ => False) ([vR 0, vI s9, vI df].map (pvRe ad)).toArray s 1 6 A
    have hD' : ∀ z, va_D A (pvWs ad cI cJ cD L z) := fun z' => pvD_any hD
    have hfin : ∀ (a : Int) (pc : Nat) (z' : pvM) (H : Heap) (locs : List Loc) (arr : Array Slot) (cells slots : Nat), cells ≤ 1 → slots ≤ 6 → decode cL_take pc = .ok (.ireturn, 1) → pvR a → pvRng z' → Q (.inl (some (vI a))) z' → va_P D vwCl (pvWs ad cI cJ cD L z') H → va_S A s.heap H locs →
        W p l e mL_take s m ([vR 0, vI s9, vI df].map (pvRe ad)).toArray below meth c H locs cells slots Qm (F0 m pc arr [.int (Int32.ofInt a)]) := by
      intro a pc z' H locs arr cells slots hc1 hs1 hd ha hrz hq hP' hSS
      refine W.widen hc1 hs1 (vx_ret (W.iret hx hb hr (fun t ht hW => ?_) hSS.2.2 hd hlocks))
      exact ⟨some (vI a), z', rfl, fun x hx => by cases hx; exact ha, hrz, hq, by rw [ht]; exact hP', hSS.F ht, fun h => absurd h (by decide)⟩
    -- what is caught
    have hex : ∀ (pcall : Nat) (z' : pvM), pcall < 17 → Q (.inl (some (vI (-1)))) z' → pvRng z' → ∀ (H : Heap) (locs : List Loc) (arr : Array Slot) (ls : pvL) (q : Addr) (ce : Cell) (rest : List Value), pvLh ad ls arr 4 → va_P D vwCl (pvWs ad cI cJ cD L z') H → va_S A s.heap H locs → H[q]? = some ce → ce.vm = .none → s.vm.findClass (pvXn 3) = some ce.cls →
        vx_W p l e mL_take s m ([vR 0, vI s9, vI df].map (pvRe ad)).toArray below meth c H locs 1 6 Qm (F0 m pcall arr rest) q := by
      intro pcall z' hp17 hq hrz H locs arr ls q ce rest hl hP' hSS h1 h2 h3
      refine vx_catch (name := pvXn 3) (E := pvXn 3) hown [(⟨0, 17, 18, 115⟩ : ExceptionTableEntry)] (⟨0, 17, 22, 117⟩ : ExceptionTableEntry) [] htab ?_ ?_ (by decide) (hts _ wd_5_36) (va_Nw.use rfl (hWc.2.2.2.2.1 _ pvXn_cast)) h1 h2 h3 ?_
      · intro w hw
        obtain rfl := List.mem_singleton.mp hw
        exact Or.inr ⟨by decide, pvXn 0, hts _ wd_5_35, hWc.2.2.2.2.2.2.1 _ pvXn_cast _ List.mem_cons_self (by decide +kernel)⟩
      · show covers (⟨0, 17, 22, 117⟩ : ExceptionTableEntry) pcall = true
        simp [covers, hp17]
      · have hh0 : lv_has arr 4 [] := lv_has_sub hl.1 (fun _ h => absurd h List.not_mem_nil)
        refine lv_astore_n hx hb (show decode cL_take 22 = .ok (.astore_n 3, 1) from by decide +kernel) rfl hh0 (by decide) rfl fun ls' hl' => ?_
        refine lv_iconst (v := -1) hx hb (show decode cL_take 23 = .ok (.iconst (-1), 1) from by decide +kernel) (by decide) ?_
        exact hfin (-1) _ z' H locs _ _ _ (Nat.le_refl _) (Nat.le_refl _) (show decode cL_take 24 = .ok (.ireturn, 1) from by decide +kernel) ⟨by decide, by decide⟩ hrz hq hP' hSS
    have hcs : pvCs [vR 0, vI s9, vI df] ≤ 4 := Nat.le_of_ble_eq_true rfl
    have hl : pvLh ad (pvEn [vR 0, vI s9, vI df] 4) _ 4 := pvLh_en hcs
    rw [lg_entry_eq]
    revert hl
    generalize (lg_sl ([vR 0, vI s9, vI df].map (pvRe ad)) ++ List.replicate (4 - (lg_sl ([vR 0, vI s9, vI df].map (pvRe ad))).length) Slot.unset).toArray = arr
    intro hl
    have g0 : arr[0]? = some (.val (.ref (ad 0))) := pvLh_ld (v := vR 0) hl rfl
    have g1 : arr[1]? = some (.val (.int (Int32.ofInt s9))) := pvLh_ld (v := vI s9) hl rfl
    have g2 : arr[2]? = some (.val (.int (Int32.ofInt df))) := pvLh_ld (v := vI df) hl rfl
    -- a call, and what is behind it
    have go : ∀ (pcall ix : Nat) (C9 : pvC), aL_take (pvLm L) (pvScx sx) ix = some (2, false, 8, 0, C9) → C9 [vR 0, vI s9] z (tkQ Q) → pcall < 17 → decode cL_take pcall = .ok (.invokevirtual ix, 3) →
        (∀ (a : Int) (z' : pvM) (H : Heap) (locs : List Loc), pvR a → pvRng z' → Q (.inl (some (vI a))) z' → va_P D vwCl (pvWs ad cI cJ cD L z') H → va_S A s.heap H locs → W p l e mL_take s m ([vR 0, vI s9, vI df].map (pvRe ad)).toArray below meth c H locs 0 0 Qm (F0 m (pcall + 3) arr [.int (Int32.ofInt a)])) →
        W p l e mL_take s m ([vR 0, vI s9, vI df].map (pvRe ad)).toArray below meth c s.heap [] 0 0 Qm (F0 m pcall arr [.int (Int32.ofInt s9), .ref (ad 0)]) := by
      intro pcall ix C9 hC9 h9 hp17 hdc kk
      refine pvCall_ok (lim := pvLm L) (Ca := aL_take (pvLm L) (pvScx sx)) (ix := ix) (sta := false) (c0 := 0) (s0 := 0) (Gm := 1) (g := 0) (st := [vI s9, vR 0]) (z := z) (kx := fun k z' g' => g' = 0 ∧ tkQ Q (.inr k) z') (kk := fun st' z' g' => g' = 0 ∧ ∃ v, st' = pvPush v [] ∧ tkQ Q (.inl v) z') M pvTb_g (caL_take hf _ _) hWc (fun id h h6 => h.resolve_right h6) hL0 hsx ⟨Nat.le_refl _, Nat.le_refl _⟩ ?_ hdc ?_ hz hl hP (hD' _) va_S.rf ?_ ?_
      · unfold pvCall
        rw [hC9]
        refine ⟨rfl, by decide, ?_⟩
        show pvCs [] ≤ 8 ∧ (false = false → pvRecv (pvLm L) 8 [vR 0, vI s9]) ∧ C9 [vR 0, vI s9] z _
        refine ⟨by decide, fun _ => ⟨rfl, hl0⟩, ?_⟩
        have e : (pvKk (fun v z' => 0 + 0 = 0 ∧ ∃ v', pvPush v [] = pvPush v' [] ∧ tkQ Q (.inl v') z') (fun k z' => 0 = 0 ∧ tkQ Q (.inr k) z') : pvO → pvM → Prop) = tkQ Q := by
          funext o z9
          cases o with
          | inl v => exact propext ⟨fun h => by obtain ⟨-, v', e1, e2⟩ := h; rw [pvPush_inj e1]; exact e2, fun h => ⟨rfl, v, rfl, h⟩⟩
          | inr k => exact propext ⟨fun h => h.2, fun h => ⟨rfl, h⟩⟩
        rw [e]
        exact h9
      · intro v hv
        simp only [List.mem_cons, List.not_mem_nil, or_false] at hv
        rcases hv with rfl | rfl
        · exact hOk _ (by simp)
        · exact hOk _ (by simp)
      · rintro st' z9 g' ⟨rfl, v, rfl, a, rfl, hq⟩ hS9 hz9 H' locs' hP9 hSS9
        exact kk a z9 H' locs' (hS9 (vI a) List.mem_cons_self) hz9 hq hP9 hSS9
      · rintro k z9 g' ⟨rfl, rfl, hq⟩ hz9 H' locs' q ce rest9 hP9 hSS9 h1 h2 h3
        exact hex pcall z9 hp17 hq hz9 H' locs' arr (pvEn [vR 0, vI s9, vI df] 4) q ce rest9 hl hP9 hSS9 h1 h2 h3
    refine lv_iload_n hx hb (show decode cL_take 0 = .ok (.iload_n 2, 1) from by decide +kernel) rfl g2 ?_
    rcases hcalls with ⟨rfl, h9⟩ | ⟨rfl, h9⟩
    · refine lv_if_eq hx hb (show decode cL_take 1 = .ok (.ifCond .eq 11, 3) from by decide +kernel) (tgt := 12) rfl (fun _ => ?_) (fun h9 => absurd rfl h9)
      refine lv_aload_n hx hb (show decode cL_take 12 = .ok (.aload_n 0, 1) from by decide +kernel) rfl g0 ?_
      refine lv_iload_n hx hb (show decode cL_take 13 = .ok (.iload_n 1, 1) from by decide +kernel) rfl g1 ?_
      refine go 14 112 _ rfl h9 (by decide) (show decode cL_take 14 = .ok (.invokevirtual 112, 3) from by decide +kernel) (fun a z' H locs ha hz' hq hP' hSS => ?_)
      exact hfin a 17 z' H locs arr _ _ (Nat.zero_le _) (Nat.zero_le _) (show decode cL_take 17 = .ok (.ireturn, 1) from by decide +kernel) ha hz' hq hP' hSS
    · refine lv_if_eq hx hb (show decode cL_take 1 = .ok (.ifCond .eq 11, 3) from by decide +kernel) (tgt := 12) rfl (fun h9 => absurd h9 (by decide)) (fun _ => ?_)
      refine lv_aload_n hx hb (show decode cL_take 4 = .ok (.aload_n 0, 1) from by decide +kernel) rfl g0 ?_
      refine lv_iload_n hx hb (show decode cL_take 5 = .ok (.iload_n 1, 1) from by decide +kernel) rfl g1 ?_
      refine go 6 109 _ rfl h9 (by decide) (show decode cL_take 6 = .ok (.invokevirtual 109, 3) from by decide +kernel) (fun a z' H locs ha hz' hq hP' hSS => ?_)
      refine lv_goto hx hb (show decode cL_take 9 = .ok (.goto 8, 3) from by decide +kernel) (tgt := 17) rfl ?_
      exact hfin a 17 z' H locs arr _ _ (Nat.zero_le _) (Nat.zero_le _) (show decode cL_take 17 = .ok (.ireturn, 1) from by decide +kernel) ha hz' hq hP' hSS
  refine MetFree.mono hM (fun _ _ h => h) (fun _ _ _ _ _ h => h) (fun _ _ _ _ _ h => ?_)
  rcases h with ⟨h1, h2⟩ | ⟨q, rfl, E, ce, L, h1, -⟩
  · exact ⟨h1, h2⟩
  · exact h1.elim
