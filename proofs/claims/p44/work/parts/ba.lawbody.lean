/-! the law's own body, over the machine -/
set_option maxHeartbeats 1000000 in
/-- a call of fill -/
theorem lw_fill {p : Program} {l : Launch} {e : Env} {R : Room} {s : State} {m : MethodId} {args : Array Value} {below : List Frame} {meth : Method} {c : Code} {H : Heap} {locs : List Loc} {cells slots pc nL : Nat} {ls : Array Slot} {rest : List Value} {Q : State → Prop} {cc : ByteArray} {D : va_G} {cI cJ cD : ClassId} {A : Nat → Prop} {sx : pvSx} {ad : Nat → Nat} {L : List Nat} {z : pvM} (hf : l.stackTraces = false)
    (M : pvMc "EventClockWorkbenchLaw" cc nL pvTb p s m args meth c) (hWc : pvWc D cI cJ cD sx A s) (hL : pvWl L) (hsx : ad 60 = sx.1) (hz : pvRng z) (hP : va_P D vwCl (pvWs ad cI cJ cD L z) H) (hD : va_D A (pvWs ad cI cJ cD L z)) (hS : va_S A s.heap H locs) (hsz : ls.size = nL) (hR : 11 ≤ R.frames ∧ 352 ≤ R.locals)
    {fr many : Nat} {s9 : Int} (hs9 : 0 ≤ s9 ∧ s9 ≤ 1) (hm : many ≤ 7) (hfr : fr ≤ 100) (h1 : hiF z) (h2 : WfC (z.1 2) ∧ WfC (z.1 4)) (h3 : z.1 5 6 = 0 ∧ z.1 9 6 = 0) (h4 : z.1 17 1 = 0) (h5 : (autC (z.1 (rwC s9))).1 = 0)
    (hdg : decode cc pc = .ok (.invokestatic 180, 3)) (hst : (rest.map fun v => v.category).sum ≤ 8) (hcs : cells + 1000 ≤ R.cells ∧ slots + 6000 ≤ R.slots)
    (kk : ∀ (ad' : Nat → Nat) (id : Nat) (z' : pvM) (H1 : Heap) (locs1 : List Loc), 64 ≤ id → id ∉ L → pvAI id = 10 * many → (∀ j, j ≠ id → ad' j = ad j) → pvWl (L ++ [id]) → va_P D vwCl (pvWs ad' cI cJ cD (L ++ [id]) z') H1 → va_D A (pvWs ad' cI cJ cD (L ++ [id]) z') → pvRng z' → flS (pvZr z id) z' id s9 many → va_S A s.heap H1 locs1 →
      W p l e R s m args below meth c H1 locs1 (cells + 1000) (slots + 6000) Q (F0 m (pc + 3) ls (.ref (ad' id) :: rest))) :
    W p l e R s m args below meth c H locs cells slots Q (F0 m pc ls (.int (Int32.ofInt (many : Int)) :: .int (Int32.ofInt s9) :: .int (Int32.ofInt (fr : Int)) :: .ref (ad 60) :: .ref (ad 0) :: rest)) := by
  obtain ⟨hx, hb, hml, hown, hts, hlocks⟩ := M
  have hA : ∀ q, s.heap.size ≤ q → A q := hWc.2.1
  have hW1 : ∀ U : State, U.heap = H → s.WarmedH U.vm → pvPw ad D cI cJ cD sx L A z U := fun U hU hW => ⟨pvWc_move hWc hS hU hW, by rw [hU]; exact hP, hD⟩
  have hr := va_runS (As := [vR 0, vR 60, vI (fr : Int), vI s9, vI (many : Int)].map (pvRe ad)) (rest := rest) (g := F0 m pc ls (.int (Int32.ofInt (many : Int)) :: .int (Int32.ofInt s9) :: .int (Int32.ofInt (fr : Int)) :: .ref (ad 60) :: .ref (ad 0) :: rest)) (H := H) (locs := locs) (cells := cells) (slots := slots) (l := l) (e := e) (R := R) (below := below) (meth := meth) ⟨hx, hb, hml, hown, hts⟩ (tL_fill hf ad D cI cJ cD sx L A fr many s9 z hL hsx hz hs9 hm hfr h1 h2 h3 h4 h5)
    ⟨callB_of (index := 180) 5 hts (pvGood_c pvTb_g wd_3_55) rfl rfl rfl (hts _ wd_1_0) (hts _ wd_3_53) ⟨by decide, by decide, by decide +kernel⟩ ⟨by show 10 + 1 ≤ _; omega, by show 8 + (11 + 11) + 322 ≤ _; omega⟩, hts _ wd_3_54⟩
    ⟨pvPw_blind ad D cI cJ cD sx L A z _, fun U hU hW => ⟨rfl, hW1 U hU hW⟩⟩ rfl rfl hsz rfl (lv_room hst) hdg ⟨hcs.1, hcs.2⟩
  intro T hT X
  obtain ⟨v, st₀, t, T', L9, e0, X', hL9, e1, e2, ⟨⟨ad', id, z', hv, q1, q2, q3, q4, q5, q6, q7, q8, q9⟩, ⟨hz9, hk9⟩⟩, st⟩ := hr T hT X
  simp only [Outcome.returned.injEq] at hv
  subst hv
  rw [e0] at hz9 hk9
  obtain ⟨t2, a1, b1⟩ := kk ad' id z' T'.heap (locs ++ L9) q1 q2 q3 q4 q5 (by rw [e1]; exact q6) q7 q8 q9
    ⟨Nat.le_trans hS.1 (by rw [e1]; exact hz9), fun q g1 g2 => by rw [e1, hk9 q (Nat.lt_of_lt_of_le g1 hS.1) g2]; exact hS.2.1 q g1 g2, fun q hq => by
      rcases List.mem_append.mp hq with h | h
      · exact hS.2.2 q h
      · exact hL9 q h⟩ T' rfl X'
  exact ⟨t2, st t2 a1, b1⟩
theorem lw_nR {ini fin ini2 fin2 : Int} {w6 w7 w8 w9 : Option pvV} {x : Nat} (hx : 64 ≤ x) (h6 : w6 ≠ some (vR x)) (h7 : w7 ≠ some (vR x)) (h8 : w8 ≠ some (vR x)) (h9 : w9 ≠ some (vR x)) : ∀ k, pvLd [some (vR 60), some (vR 0), some (vI ini), some (vI fin), some (vI ini2), some (vI fin2), w6, w7, w8, w9, none, none, none, none, none] k ≠ some (vR x) := by
  intro k hk
  rcases k with _ | _ | _ | _ | _ | _ | _ | _ | _ | _ | _ | _ | _ | _ | _ | k <;> first | (cases hk; done) | skip
  · simp only [pvLd, Option.some.injEq, Sum.inr.injEq, Sum.inl.injEq] at hk; omega
  · simp only [pvLd, Option.some.injEq, Sum.inr.injEq, Sum.inl.injEq] at hk; omega
  · exact h6 hk
  · exact h7 hk
  · exact h8 hk
  · exact h9 hk
theorem lw_vR {a x : Nat} (h : a ≠ x) : (some (vR a) : Option pvV) ≠ some (vR x) := by
  intro e
  simp only [Option.some.injEq, Sum.inr.injEq, Sum.inl.injEq] at e
  exact h e
theorem lw_vI {a : Int} {x : Nat} : (some (vI a) : Option pvV) ≠ some (vR x) := by
  intro e
  cases e
/-- what the marks keep -/
theorem lw_g {z z1 : pvM} (g : stG z z1) {Qs : List Int} (hp : psS z 13 emA) (hq : quF z Qs) (hw : WvF z.1) : psS z1 13 emA ∧ quF z1 Qs ∧ WvF z1.1 ∧ (∀ id, id ∉ [2, 4, 5, 9, 36, 37] → z1.1 id = z.1 id) := by
  have e : ∀ id, id ∉ [2, 4, 5, 9, 36, 37] → z1.1 id = z.1 id := g.1.1
  refine ⟨?_, ?_, ?_, e⟩
  · obtain ⟨a1, a2, a3, a4, a5⟩ := hp
    exact ⟨a1, by show mvP (z1.1 14) emA; rw [e 14 (by decide)]; exact a2, by rw [e 13 (by decide)]; exact a3, by rw [e 13 (by decide)]; exact a4, a5⟩
  · unfold quF at *
    rw [e 28 (by decide), e 29 (by decide), e 30 (by decide)]
    exact hq
  · unfold WvF WcF at *
    rw [e 20 (by decide), e 21 (by decide), e 22 (by decide), e 23 (by decide)]
    exact hw
set_option maxHeartbeats 4000000 in
theorem law_body {p : Program} {l : Launch} {e : Env} {s : State} {m : MethodId} {args : Array Value} {below : List Frame} {meth : Method} {c : Code} {Qm : State → Prop} {D : va_G} {cI cJ cD : ClassId} {A : Nat → Prop} {sx : pvSx} {ad : Nat → Nat} {z : pvM} {H : Heap} {locs : List Loc} {arr : Array Slot} {c0 s0 : Nat} {Qs : List Int} (hf : l.stackTraces = false)
    (M : pvMc "EventClockWorkbenchLaw" cL_law 15 pvTb p s m args meth c) (hWc : pvWc D cI cJ cD sx A s) (hsx : ad 60 = sx.1) (hz : pvRng z) (hP : va_P D vwCl (pvWs ad cI cJ cD (List.range 39) z) H) (hD : va_D A (pvWs ad cI cJ cD (List.range 39) z)) (hS : va_S A s.heap H locs)
    (hl : pvLh ad [some (vR 60), some (vR 0), none, none, none, none, none, none, none, none, none, none, none, none, none] arr 15) (hroom : c0 + 3000 ≤ room_1.cells ∧ s0 + 20000 ≤ room_1.slots)
    (hg : stG z z) (h17 : z.1 17 1 = 0) (h2 : (autC (z.1 2)).1 = 0) (h4 : (autC (z.1 4)).1 = 0) (hp : psS z 13 emA) (hq : quF z Qs) (hw : WvF z.1) (h20 : z.1 20 4 = 0)
    (hret : ∀ (pc : Nat) (H : Heap) (locs : List Loc) (arr : Array Slot), decode cL_law pc = .ok (.ireturn, 1) → va_S A s.heap H locs → W p l e room_1 s m args below meth c H locs (c0 + 3000) (s0 + 20000) Qm (F0 m pc arr [.int 1])) :
    W p l e room_1 s m args below meth c H locs c0 s0 Qm (F0 m 8 arr []) := by
  obtain ⟨hx, hb, hml, hown, hts, hlocks⟩ := id M
  have hA : ∀ q, s.heap.size ≤ q → A q := hWc.2.1
  have hK := hWc.1
  have hRt : ∀ (ax : Nat → Nat) (Lx : List Nat) (c1 s1 : Nat), c1 + 40 ≤ c0 + 3000 → s1 + 240 ≤ s0 + 20000 → ∀ (i : Instr) (v : Option pvV) (pc g : Nat) (z : pvM), pvRk i v = true → decode cL_law pc = .ok (i, 1) → (fun (v : Option pvV) (_ : pvM) (g : Nat) => v = some (vI 1) ∧ g ≤ 30) v z g → (∀ x, v = some x → pvOk x) → pvRng z → ∀ (H : Heap) (locs : List Loc) (arr : Array Slot), va_P D vwCl (pvWs ax cI cJ cD Lx z) H → va_S A s.heap H locs →
      W p l e room_1 s m args below meth c H locs (c1 + g) (s1 + 6 * g) Qm (F0 m pc arr (v.map (pvRe ax)).toList) := by
    intro ax Lx c1 s1 hc1 hs1 i v pc g z' hrk hd hv _ _ H locs arr _ hSS
    obtain ⟨rfl, hg⟩ := hv
    cases i <;> first | (cases hrk; done) | skip
    refine W.widen (k := c0 + 3000) (n := s0 + 20000) (by omega) (by omega) ?_
    exact hret pc H locs arr hd hSS
  have segc : ∀ (ax : Nat → Nat) (Lx : List Nat) (c1 s1 : Nat), pvWl Lx → ax 60 = sx.1 → (∀ z, va_D A (pvWs ax cI cJ cD Lx z)) → c1 + 40 ≤ c0 + 3000 → s1 + 240 ≤ s0 + 20000 → pvCloG (pvLm Lx) (pvScx sx) fL (aL_law (pvLm Lx) (pvScx sx)) kL 40 (fun (v : Option pvV) (_ : pvM) (g : Nat) => v = some (vI 1) ∧ g ≤ 30) bL_law uL_law (pvSW p l e room_1 s m args below meth c Qm 15 Lx (c1) (s1) ax D cI cJ cD A) := by
    intro ax Lx c1 s1 hLx hax hDx hc1 hs1 n pc ls st z' g h hL9 hS9 hz9 H locs arr hP' hSS hl9
    exact pvSeg M pvTb_g coL foL pvCl (caL_law hf _ _) hWc hLx hax ⟨Nat.le_trans hc1 hroom.1, Nat.le_trans hs1 hroom.2⟩ hDx chL_law (fun _ _ _ _ _ h => h) (hRt ax Lx c1 s1 hc1 hs1) n pc ls st z' g (h hL9 hS9 hz9) hL9 hS9 hz9 H locs arr hP' hSS hl9
  have hL0 : pvWl (List.range 39) := ⟨List.nodup_range, fun id h => List.mem_range.mpr h, by decide⟩
  have lm60 : ∀ L : List Nat, pvLm L 60 := fun L => Or.inr rfl
  have hok0 : pvOkL [some (vR 60), some (vR 0), none, none, none, none, none, none, none, none, none, none, none, none, none] := fun k v hk => by
    rcases k with _ | _ | _ | _ | _ | _ | _ | _ | _ | _ | _ | _ | _ | _ | _ | k <;> first | (cases hk; done) | (cases hk; exact True.intro)
  have hR9 : 11 ≤ room_1.frames ∧ 352 ≤ room_1.locals := ⟨Nat.le_of_ble_eq_true rfl, Nat.le_of_ble_eq_true rfl⟩
  refine okL_law8 (Gm := 40) (by decide) (segc ad _ c0 s0 hL0 hsx (fun z => pvD_any hD) (by omega) (by omega)) (lm60 _) (Or.inl (List.mem_range.mpr (by decide))) hg (fun ini fin ini2 fin2 m1 z1 hm1 g1 a2 a4 => ?_) hok0 (fun v hv => absurd hv List.not_mem_nil) hz H locs arr hP hS hl
  clear hP hS hl arr locs H
  intro hok hSt hz1 H locs arr hP hS hl
  obtain ⟨p1, p2, p3, e1⟩ := lw_g g1 hp hq hw
  obtain ⟨mt, rfl⟩ : ∃ mt : Nat, m1 = (mt : Int) := ⟨m1.toNat, by omega⟩
  refine lw_fill (fr := 20) (many := mt) (s9 := 0) hf M hWc hL0 hsx hz1 hP (pvD_any hD) hS hl.1.1 hR9 (by decide) (by omega) (by decide) g1.2.1 g1.2.2.1 g1.2.2.2.2.2 (by rw [e1 17 (by decide)]; exact h17) (by show (autC (z1.1 2)).1 = 0; rw [a2]; exact h2) (show decode cL_law 76 = .ok (.invokestatic 180, 3) from by decide +kernel) (Nat.le_of_ble_eq_true rfl) ⟨Nat.le_trans (by omega) hroom.1, Nat.le_trans (by omega) hroom.2⟩ (fun ad1 t z2 H locs t64 htL hat had1 hL1 hP hD1 hz2 fl1 hS => ?_)
  have hsx1 : ad1 60 = sx.1 := (had1 60 (by omega)).trans hsx
  have hl1 := pvLh_ad hl had1 (lw_nR t64 (by simp) (by simp) (by simp) (by simp))
  refine lv_astore hx hb (show decode cL_law 79 = .ok (.astore 6, 2) from by decide +kernel) hl1.1 (by decide) rfl (fun arr hl' => ?_)
  have hl2 := pvLh_s1 (v := vR t) hl1 hl'
  have hok2 := pvOkL_s1 (k := 6) (v := vR t) hok trivial
  refine W.widen (k := c0 + 1000) (n := s0 + 6000) (by omega) (by omega) ?_
  refine okL_law81 (Gm := 40) (ini := ini) (fin := fin) (ini2 := ini2) (fin2 := fin2) (t := t) (by decide) (segc ad1 _ (c0 + 1000) (s0 + 6000) hL1 hsx1 (fun z => pvD_any hD1) (by omega) (by omega)) (lm60 _) (fun m2 hm2 => ?_) hok2 (fun v hv => absurd hv List.not_mem_nil) hz2 H locs arr hP hS hl2
  clear hP hS hl hl1 hl2 hl' arr locs H hok hok2 hSt
  intro hok hSt _ H locs arr hP hS hl
  obtain ⟨mu, rfl⟩ : ∃ mu : Nat, m2 = (mu : Int) := ⟨m2.toNat, by omega⟩
  obtain ⟨f1, f2, f3, ⟨-, -, f4⟩, f5, f6, -, -, -⟩ := id fl1
  refine lw_fill (fr := 70) (many := mu) (s9 := 1) hf M hWc hL1 hsx1 hz2 hP (pvD_any hD1) hS hl.1.1 hR9 (by decide) (by omega) (by decide) f2 f3 f4 f5 (by have e9 : z2.1 (rwC 1) = z1.1 4 := f6.trans (pvZr_ne z1 (i := 4) (by omega)); rw [e9, a4]; exact h4) (show decode cL_law 93 = .ok (.invokestatic 180, 3) from by decide +kernel) (Nat.le_of_ble_eq_true rfl) ⟨Nat.le_trans (by omega) hroom.1, Nat.le_trans (by omega) hroom.2⟩ (fun ad2 u z3 H locs u64 huL hau had2 hL2 hP hD2 hz3 fl2 hS => ?_)
  have hut : u ≠ t := fun e => huL (List.mem_append_right _ (e ▸ List.mem_cons_self))
  have hsx2 : ad2 60 = sx.1 := (had2 60 (by omega)).trans hsx1
  have hl1 := pvLh_ad hl had2 (lw_nR u64 (lw_vR hut.symm) (by simp) (by simp) (by simp))
  refine lv_astore hx hb (show decode cL_law 96 = .ok (.astore 7, 2) from by decide +kernel) hl1.1 (by decide) rfl (fun arr hl' => ?_)
  have hl2 : pvLh ad2 [some (vR 60), some (vR 0), some (vI ini), some (vI fin), some (vI ini2), some (vI fin2), some (vR t), some (vR u), none, none, none, none, none, none, none] arr 15 := pvLh_s1 (k := 7) (v := vR u) hl1 hl'
  have hok2 : pvOkL [some (vR 60), some (vR 0), some (vI ini), some (vI fin), some (vI ini2), some (vI fin2), some (vR t), some (vR u), none, none, none, none, none, none, none] := pvOkL_s1 (k := 7) (v := vR u) hok trivial
  refine lv_aload hx hb (show decode cL_law 98 = .ok (.aload 6, 2) from by decide +kernel) (pvLh_ld (v := vR t) hl2 (k := 6) rfl) ?_
  refine lv_ifnull hx hb (show decode cL_law 100 = .ok (.ifnull 8, 3) from by decide +kernel) ?_
  refine lv_aload hx hb (show decode cL_law 103 = .ok (.aload 7, 2) from by decide +kernel) (pvLh_ld (v := vR u) hl2 (k := 7) rfl) ?_
  refine lv_ifnonnull hx hb (show decode cL_law 105 = .ok (.ifnonnull 5, 3) from by decide +kernel) (tgt := 110) rfl ?_
  refine W.widen (k := c0 + 2000) (n := s0 + 12000) (by omega) (by omega) ?_
  have lmt : pvLm (List.range 39 ++ [t] ++ [u]) t := pvLm_new.mpr (Or.inl (pvLm_new.mpr (Or.inr rfl)))
  have lmu : pvLm (List.range 39 ++ [t] ++ [u]) u := pvLm_new.mpr (Or.inr rfl)
  obtain ⟨i1, i2, i3, i4⟩ := law_inv (lim := pvLm (List.range 39 ++ [t] ++ [u])) fl1 fl2 t64 u64 hut lmt lmu hat hau p1 ⟨_, p2⟩ p3
  rw [a2] at i2
  rw [a4] at i3
  refine okL_law110 (Gm := 40) (ini := ini) (fin := fin) (ini2 := ini2) (fin2 := fin2) (t := t) (u := u) (by decide) (segc ad2 _ (c0 + 2000) (s0 + 12000) hL2 hsx2 (fun z => pvD_any hD2) (by omega) (by omega)) (lm60 _) (fun n hn => ?_) hok2 (fun v hv => absurd hv List.not_mem_nil) hz3 H locs arr hP hS hl2
  clear hP hS hl hl1 hl2 hl' arr locs H hok hok2 hSt
  intro hok hSt _ H locs arr hP hS hl
  refine lv_bipush (v := 6) hx hb (show decode cL_law 120 = .ok (.bipush 6, 2) from by decide +kernel) (by decide) ?_
  refine tw_new M hK hL2 hP (pvD_any hD2) hS hA (x := Int32.ofInt 6) (n := 6) rfl (by decide) (Nat.le_trans (by omega) hroom.1) (Nat.le_trans (by omega) hroom.2) (show decode cL_law 122 = .ok (.newarray .int, 2) from by decide +kernel) (fun ad3 dl H g1' g2 g3 g4 had3 hL3 hP hD3 hS => ?_)
  have hdt : t ≠ dl := fun e => g2 (by rw [← e]; simp)
  have hdu : u ≠ dl := fun e => g2 (by rw [← e]; simp)
  have hl1 := pvLh_ad hl had3 (lw_nR g1' (lw_vR hdt) (lw_vR hdu) (by simp) (by simp))
  refine lv_astore hx hb (show decode cL_law 124 = .ok (.astore 9, 2) from by decide +kernel) hl1.1 (by decide) rfl (fun arr hl' => ?_)
  have hl2 := pvLh_s1 (v := vR dl) hl1 hl'
  have hok2 := pvOkL_s1 (k := 9) (v := vR dl) hok trivial
  refine lv_bipush (v := 6) hx hb (show decode cL_law 126 = .ok (.bipush 6, 2) from by decide +kernel) (by decide) ?_
  refine tw_new M hK hL3 hP hD3 hS hA (x := Int32.ofInt 6) (n := 6) rfl (by decide) (Nat.le_trans (by omega) hroom.1) (Nat.le_trans (by omega) hroom.2) (show decode cL_law 128 = .ok (.newarray .int, 2) from by decide +kernel) (fun ad4 lt H k1 k2 k3 k4 had4 hL4 hP hD4 hS => ?_)
  have hlt : t ≠ lt := fun e => k2 (by rw [← e]; simp)
  have hlu : u ≠ lt := fun e => k2 (by rw [← e]; simp)
  have hld : dl ≠ lt := fun e => k2 (by rw [← e]; simp)
  have hl3 := pvLh_ad hl2 had4 (lw_nR k1 (lw_vR hlt) (lw_vR hlu) lw_vI (lw_vR hld))
  refine lv_astore hx hb (show decode cL_law 130 = .ok (.astore 10, 2) from by decide +kernel) hl3.1 (by decide) rfl (fun arr hl' => ?_)
  have hl4 := pvLh_s1 (v := vR lt) hl3 hl'
  have hok4 := pvOkL_s1 (k := 10) (v := vR lt) hok2 trivial
  have hsx4 : ad4 60 = sx.1 := ((had4 60 (by omega)).trans (had3 60 (by omega))).trans hsx2
  refine W.widen (k := c0 + 2002) (n := s0 + 12012) (by omega) (by omega) ?_
  have ez : ∀ i, i ≠ dl → i ≠ lt → (pvZr (pvZr z3 dl) lt).1 i = z3.1 i := fun i h1 h2 => (pvZr_ne _ h2).trans (pvZr_ne _ h1)
  have er : ∀ q : Int, (pvZr (pvZr z3 dl) lt).1 (rwC q) = z3.1 (rwC q) := fun q => by
    have := rw_l (s := q)
    exact ez _ (by omega) (by omega)
  have lmm : ∀ id, pvLm (List.range 39 ++ [t] ++ [u]) id → pvLm (List.range 39 ++ [t] ++ [u] ++ [dl] ++ [lt]) id := fun id h => pvLm_new.mpr (Or.inl (pvLm_new.mpr (Or.inl h)))
  have au9 : ∀ {s9 : Int} {w : Nat} {i f : Int}, w ≠ dl → w ≠ lt → auP (pvLm (List.range 39 ++ [t] ++ [u])) z3 s9 w i f → auP (pvLm (List.range 39 ++ [t] ++ [u] ++ [dl] ++ [lt])) (pvZr (pvZr z3 dl) lt) s9 w i f := by
    intro s9 w i f h1 h2 h
    unfold auP at *
    rw [er]
    exact ⟨trP_l h.1 lmm (ez w h1 h2), h.2⟩
  exact okL_law132 (Gm := 40) (t := t) (u := u) (dl := dl) (lt := lt) (n := n) (by decide) (segc ad4 _ (c0 + 2002) (s0 + 12012) hL4 hsx4 (fun z => pvD_any hD4) (by omega) (by omega)) (fun id h => Or.inl (hL4.2.1 id h)) (lm60 _) ⟨pvLm_new.mpr (Or.inl (pvLm_new.mpr (Or.inr rfl))), by omega, g1', g4⟩ ⟨pvLm_new.mpr (Or.inr rfl), by omega, k1, k4⟩ ⟨hld, hdt, hlt, hdu, hlu⟩ (fun z' g hg => ⟨rfl, hg⟩) hn (by rw [ez 20 (by omega) (by omega), i4, e1 20 (by decide)]; exact h20) (lsP_c i1 (fun id h => ez id (by omega) (by omega))) (au9 hdt hlt i2) (au9 hdu hlu i3)
    hok4 (fun v hv => absurd hv List.not_mem_nil) (pvZr_rng (pvZr_rng hz3 _) _) H locs arr hP hS hl4
