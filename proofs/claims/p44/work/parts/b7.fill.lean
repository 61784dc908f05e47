/-! fill, the walk -/
set_option maxHeartbeats 1000000 in
/-- a number into the law's row -/
theorem fl_st {p : Program} {l : Launch} {e : Env} {R : Room} {s : State} {m : MethodId} {args : Array Value} {below : List Frame} {meth : Method} {c : Code} {H H0 : Heap} {locs : List Loc} {cells slots pc : Nat} {ls : Array Slot} {rest : List Value} {Q : State → Prop} {cc : ByteArray} {D : va_G} {cI cJ cD : ClassId} {A : Nat → Prop} {ad : Nat → Nat} {L : List Nat} {z : pvM} {id N : Nat}
    (hx : p.tables.exec = Jvm.exec) (hb : c.code = cc) (hK : va_K D vwCl (pvTy cI cJ cD) s) (hL : pvWl L) (hid : id ∈ L) (hsh : pvSh id = .inr (0, N)) (hP : va_P D vwCl (pvWs ad cI cJ cD L z) H) (hD : ∀ z, va_D A (pvWs ad cI cJ cD L z)) (hS : va_S A H0 H locs)
    {n : Nat} {x : Int} {i v : Int32} (hi : i = Int32.ofNat n ∧ v = Int32.ofInt x) (hn : n < N) (hN : N < 2 ^ 31) (hdg : decode cc pc = .ok (.iastore, 1))
    (kk : ∀ (H1 : Heap) (locs1 : List Loc), va_P D vwCl (pvWs ad cI cJ cD L (pvUp z.1 id n x, z.2)) H1 → va_S A H0 H1 locs1 → H.size ≤ H1.size → (∀ q : Nat, q ≠ ad id → H1[q]? = H[q]?) → W p l e R s m args below meth c H1 locs1 cells slots Q (F0 m (pc + 1) ls rest)) : W p l e R s m args below meth c H locs cells slots Q (F0 m pc ls (.int v :: .int i :: .ref (ad id) :: rest)) := by
  obtain ⟨rfl, rfl⟩ := hi
  have ha : (pvWs ad cI cJ cD L z)[L.idxOf id]? = some (ad id, .inl (cI, N, .inl fun j => Int32.ofInt (z.1 id j))) := by rw [pvWs_get hid, pvE_i hsh]
  refine W.iast hx hb (hP _ _ ha) ((hK.2 0 (cI, .int) rfl).1 N (fun j => .int (Int32.ofInt (z.1 id j)))) (fun q => by cases q) (by show ¬ (_ < 0 ∨ (arrV _ _ _).slots.size ≤ _); rw [arrV_size]; exact sb_in hn hN) rfl rfl hdg fun H1 e z1 oq => ?_
  have hnew : H1[ad id]? = some (vp_cell cI (N, .inl (upd (fun j => Int32.ofInt (z.1 id j)) n (Int32.ofInt x)))) := by
    rw [e]
    rw [vp_cell_i, vp_cell_i, arrV_store]
    rw [sb_cn (by omega)]
    congr 2
    funext q
    by_cases hq : q = n
    · subst hq
      simp [updV, upd]
    · simp [updV, upd, hq]
  have e9 : (pvWs ad cI cJ cD L z).set (L.idxOf id) (ad id, .inl (cI, N, .inl (upd (fun j => Int32.ofInt (z.1 id j)) n (Int32.ofInt x)))) = pvWs ad cI cJ cD L (pvUp z.1 id n x, z.2) := by
    refine pvWs_set hL.1 hid ?_ (fun j hj => ?_)
    · rw [pvE_i hsh]
      congr 5
      funext q
      unfold upd
      show _ = Int32.ofInt (pvUp z.1 id n x id q)
      rw [pvUp_eq]
      split <;> rfl
    · unfold pvE
      rw [show (pvUp z.1 id n x, z.2).1 j = z.1 j from pvUp_ne hj]
  rw [← e9] at kk
  exact kk H1 _ (hP.set (hD z) ha hnew oq) (hS.put z1 oq ((hD z).2 _ _ ha)) (by omega) oq
/-- what fill leaves: the new row, and what the class has read -/
def flQ (D : va_G) (cI cJ cD : ClassId) (ad : Nat → Nat) (L : List Nat) (A : Nat → Prop) (z : pvM) (s : Int) (many : Nat) (o : Outcome) (t : State) : Prop :=
  ∃ (ad' : Nat → Nat) (id : Nat) (z' : pvM), o = .returned (some (.ref (ad' id))) ∧ 64 ≤ id ∧ id ∉ L ∧ pvAI id = 10 * many ∧ (∀ j, j ≠ id → ad' j = ad j) ∧ pvWl (L ++ [id]) ∧ va_P D vwCl (pvWs ad' cI cJ cD (L ++ [id]) z') t.heap ∧ va_D A (pvWs ad' cI cJ cD (L ++ [id]) z') ∧ pvRng z' ∧ flS (pvZr z id) z' id s many
theorem flS_0 {z : pvM} {t : Nat} {s : Int} (h64 : 64 ≤ t) (hs : 0 ≤ s ∧ s ≤ 1) (h1 : hiF z) (h2 : WfC (z.1 2) ∧ WfC (z.1 4)) (h3 : z.1 5 6 = 0 ∧ z.1 9 6 = 0) (h4 : z.1 17 1 = 0) (h5 : (autC (z.1 (rwC s))).1 = 0) : flS (pvZr z t) (pvZr z t) t s 0 := by
  have e : ∀ i, i < 64 → (pvZr z t).1 i = z.1 i := fun i h => pvZr_ne z (by omega)
  have er : (pvZr z t).1 (rwC s) = z.1 (rwC s) := e _ (by have := rw_l (s := s); omega)
  refine ⟨frF_0, ?_, ?_, ⟨fun _ _ => rfl, fun _ _ => rfl, ?_, ?_⟩, ?_, rfl, ⟨?_, rfl, rfl⟩, fun j hj => absurd hj (Nat.not_lt_zero _), fun c _ => ?_⟩
  · unfold hiF at h1 ⊢
    rw [e 36 (by decide)]
    exact h1
  · rw [e 2 (by decide), e 4 (by decide)]; exact h2
  · rw [e 5 (by decide)]; exact h3.1
  · rw [e 9 (by decide)]; exact h3.2
  · rw [e 17 (by decide)]; exact h4
  · rw [er]; exact h5
  · rw [pvZr_at]
set_option maxHeartbeats 16000000 in
theorem tL_fill {l : Launch} (hf : l.stackTraces = false) (ad : Nat → Nat) (D : va_G) (cI cJ cD : ClassId) (sx : pvSx) (L : List Nat) (A : Nat → Prop) (fr many : Nat) (s9 : Int) (z : pvM) (hL0 : pvWl L) (hsx : ad 60 = sx.1) (hz : pvRng z) (hs9 : 0 ≤ s9 ∧ s9 ≤ 1) (hm : many ≤ 7) (hfr : fr ≤ 100)
    (h1 : hiF z) (h2 : WfC (z.1 2) ∧ WfC (z.1 4)) (h3 : z.1 5 6 = 0 ∧ z.1 9 6 = 0) (h4 : z.1 17 1 = 0) (h5 : (autC (z.1 (rwC s9))).1 = 0) :
    Met l yL_fill (Cond.code yL_fill cL_fill 11 (some (.array .int)) :: pvTb) mL_fill (va_Pc ([vR 0, vR 60, vI (fr : Int), vI s9, vI (many : Int)].map (pvRe ad)) (pvPw ad D cI cJ cD sx L A z)) (fun _ st o t => flQ D cI cJ cD ad L A z s9 many o t ∧ va_F A st t) 1000 6000 A := by
  refine Met.ofW (cc := cL_fill) (maxL := 11) (ret := (some (.array .int))) plL rfl ?_
  intro p e s m args below meth cQ s₁ B hml hv
  obtain ⟨rfl, hWc, hP, hD⟩ := hv
  have hx := B.exec
  have hb := B.bytes
  have hr := B.returns
  have hts0 := atoms_spec (ws := Cond.code yL_fill cL_fill 11 (some (.array .int)) :: pvTb) B.pre
  have hts : ∀ w ∈ pvTb, w.before ([vR 0, vR 60, vI (fr : Int), vI s9, vI (many : Int)].map (pvRe ad)).toArray s = true := fun w hw => hts0 w (List.mem_cons_of_mem _ hw)
  have hown : s.vm.findClass "EventClockWorkbenchLaw" = some m.cls := findClass_of_methodNamed B.named
  have hlocks := B.notSynchronized
  have M : pvMc "EventClockWorkbenchLaw" cL_fill 11 pvTb p s m ([vR 0, vR 60, vI (fr : Int), vI s9, vI (many : Int)].map (pvRe ad)).toArray meth cQ := ⟨hx, hb, hml, hown, hts, hlocks⟩
  have hA : ∀ q, s.heap.size ≤ q → A q := hWc.2.1
  have hK := hWc.1
  have hTx := hWc.2.2.2.2.2.2.2.2.2
  have hZ : sbZ A s s.heap := hTx.sbZ
  have hTx0 := hTx
  obtain ⟨⟨adK, adV, hS9, hR9⟩, -⟩ := hTx0
  have hcs : pvCs [vR 0, vR 60, vI (fr : Int), vI s9, vI (many : Int)] ≤ 11 := Nat.le_of_ble_eq_true rfl
  have hl : pvLh ad (pvEn [vR 0, vR 60, vI (fr : Int), vI s9, vI (many : Int)] 11) _ 11 := pvLh_en hcs
  have hok0 : pvOkL (pvEn [vR 0, vR 60, vI (fr : Int), vI s9, vI (many : Int)] 11) := pvEn_ok _ (fun v hv => by
    simp only [List.mem_cons, List.not_mem_nil, or_false] at hv
    rcases hv with rfl | rfl | rfl | rfl | rfl
    · exact trivial
    · exact trivial
    · exact sb_rg (by omega)
    · exact ⟨by omega, by omega⟩
    · exact sb_rg (by omega))
  rw [lg_entry_eq]
  revert hl
  generalize (lg_sl ([vR 0, vR 60, vI (fr : Int), vI s9, vI (many : Int)].map (pvRe ad)) ++ List.replicate (11 - (lg_sl ([vR 0, vR 60, vI (fr : Int), vI s9, vI (many : Int)].map (pvRe ad))).length) Slot.unset).toArray = arr
  intro hl
  refine lv_bipush (v := 10) hx hb (show decode cL_fill 0 = .ok (.bipush 10, 2) from by decide +kernel) (by decide) ?_
  refine lv_iload hx hb (show decode cL_fill 2 = .ok (.iload 4, 2) from by decide +kernel) (pvLh_ld (v := vI (many : Int)) hl (k := 4) rfl) ?_
  refine lv_imul hx hb (show decode cL_fill 4 = .ok (.imul, 1) from by decide +kernel) ?_
  refine lv_topi fun y9 hy9 => ?_
  refine tw_new M hK hL0 hP hD va_S.rf hA (n := 10 * many) (hy9.trans (by exact (Int32.ofNat_mul 10 many).symm)) (by omega) (Nat.le_of_ble_eq_true rfl) (by show 0 + 10 * many ≤ 6000; omega) (show decode cL_fill 5 = .ok (.newarray .int, 2) from by decide +kernel) (fun ad1 tid H g64 htL hsh hai had hL1 hP hD1 hS => ?_)
  have hl1 := pvLh_ad hl had (fun k hk => by
    rcases k with _ | _ | _ | _ | _ | k
    · simp only [pvEn, pvCat, pvLd, Option.some.injEq, Sum.inr.injEq, Sum.inl.injEq] at hk; cases hk; omega
    · cases hk; omega
    · cases hk
    · cases hk
    · cases hk
    · rcases k with _ | _ | _ | _ | _ | _ | k <;> cases hk)
  refine lv_astore hx hb (show decode cL_fill 7 = .ok (.astore 5, 2) from by decide +kernel) hl1.1 (by decide) rfl (fun arr hl' => ?_)
  have hl2 := pvLh_s1 (v := vR tid) hl1 hl'
  refine lv_iconst (v := 0) hx hb (show decode cL_fill 9 = .ok (.iconst 0, 1) from by decide +kernel) (by decide) ?_
  refine lv_istore hx hb (show decode cL_fill 10 = .ok (.istore 6, 2) from by decide +kernel) hl2.1 (by decide) rfl (fun arr hl' => ?_)
  have hl3 : pvLh ad1 [some (vR 0), some (vR 60), some (vI (fr : Int)), some (vI s9), some (vI (many : Int)), some (vR tid), some (vI (((0 : Nat) : Int))), none, none, none, none] arr 11 := pvLh_s1 (k := 6) (v := vI ((0 : Nat) : Int)) hl2 hl'
  have hok1 : pvOkL [some (vR 0), some (vR 60), some (vI (fr : Int)), some (vI s9), some (vI (many : Int)), some (vR tid), some (vI (((0 : Nat) : Int))), none, none, none, none] := pvOkL_s1 (k := 6) (v := vI ((0 : Nat) : Int)) (pvOkL_s1 (k := 5) (v := vR tid) hok0 trivial) (sb_rg (by decide))
  have hDz : ∀ z, va_D A (pvWs ad1 cI cJ cD (L ++ [tid]) z) := fun z => pvD_any hD1
  have ht1 : tid ∈ L ++ [tid] := List.mem_append_right _ List.mem_cons_self
  have ht60 : tid ≠ 60 := by omega
  have hsx1 : ad1 60 = sx.1 := (had 60 (by omega)).trans hsx
  have hlm : pvLm (L ++ [tid]) tid := pvLm_new.mpr (Or.inr rfl)
  have hl60 : pvLm (L ++ [tid]) 60 := Or.inr rfl
  have hl00 : pvLm (L ++ [tid]) 0 := Or.inl (hL1.2.1 0 (by decide))
  have hai2 : (pvAI tid : Int) = 10 * (many : Int) := by rw [hai]; omega
  have segc : ∀ (c0 s0 : Nat), c0 + 1 ≤ 1000 → s0 + 6 ≤ 6000 → pvCloG (pvLm (L ++ [tid])) (pvScx sx) fL (aL_fill (pvLm (L ++ [tid])) (pvScx sx)) kL 1 (fun _ _ _ => False) bL_fill uL_fill (pvSW p l e mL_fill s m ([vR 0, vR 60, vI (fr : Int), vI s9, vI (many : Int)].map (pvRe ad)).toArray below meth cQ (MQ below (fun _ st o t => flQ D cI cJ cD ad L A z s9 many o t ∧ va_F A st t) ([vR 0, vR 60, vI (fr : Int), vI s9, vI (many : Int)].map (pvRe ad)).toArray s 1000 6000 A) 11 (L ++ [tid]) c0 s0 ad1 D cI cJ cD A) := by
    intro c0 s0 hc0 hs0 n pc ls st z' g h hL9 hS9 hz9 H locs arr hP' hSS hl9
    exact pvSeg M pvTb_g coL foL pvCl (caL_fill hf _ _) hWc hL1 hsx1 ⟨hc0, hs0⟩ hDz chL_fill (fun _ _ _ _ _ h => h) (fun i v pc g z h1 h2 h3 => h3.elim) n pc ls st z' g (h hL9 hS9 hz9) hL9 hS9 hz9 H locs arr hP' hSS hl9
  have hfl0 := flS_0 (z := z) (t := tid) (s := s9) g64 hs9 h1 h2 h3 h4 h5
  have outer : ∀ (n k : Nat), k + n = many → ∀ (H : Heap) (locs : List Loc) (arr : Array Slot) (z1 : pvM), va_P D vwCl (pvWs ad1 cI cJ cD (L ++ [tid]) z1) H → va_S A s.heap H locs → pvRng z1 → flS (pvZr z tid) z1 tid s9 k → pvLh ad1 [some (vR 0), some (vR 60), some (vI (fr : Int)), some (vI s9), some (vI (many : Int)), some (vR tid), some (vI ((k : Int))), none, none, none, none] arr 11 → pvOkL [some (vR 0), some (vR 60), some (vI (fr : Int)), some (vI s9), some (vI (many : Int)), some (vR tid), some (vI ((k : Int))), none, none, none, none] → W p l e mL_fill s m ([vR 0, vR 60, vI (fr : Int), vI s9, vI (many : Int)].map (pvRe ad)).toArray below meth cQ H locs (1 + 20 * k) (70 + 200 * k) (MQ below (fun _ st o t => flQ D cI cJ cD ad L A z s9 many o t ∧ va_F A st t) ([vR 0, vR 60, vI (fr : Int), vI s9, vI (many : Int)].map (pvRe ad)).toArray s 1000 6000 A) (F0 m 12 arr []) := by
    intro n
    induction n with
    | zero =>
      intro k hk H locs arr z1 hP hS hz1 hfl hl hok
      obtain rfl : k = many := by omega
      refine lv_iload hx hb (show decode cL_fill 12 = .ok (.iload 6, 2) from by decide +kernel) (pvLh_ld (v := vI (k : Int)) hl (k := 6) rfl) ?_
      refine lv_iload hx hb (show decode cL_fill 14 = .ok (.iload 4, 2) from by decide +kernel) (pvLh_ld (v := vI (k : Int)) hl (k := 4) rfl) ?_
      refine lv_icmp_ge hx hb (show decode cL_fill 16 = .ok (.if_icmp .ge 314, 3) from by decide +kernel) (tgt := 330) rfl (fun _ => ?_) (fun h9 => absurd (Int32.le_refl _) h9)
      refine lv_aload hx hb (show decode cL_fill 330 = .ok (.aload 5, 2) from by decide +kernel) (pvLh_ld (v := vR tid) hl (k := 5) rfl) ?_
      refine W.widen (k := 1000) (n := 6000) (by omega) (by omega) ?_
      exact W.aret hx hb hr (Or.inr ⟨_, rfl⟩) (Or.inr ⟨_, rfl⟩) (fun t ht hW => ⟨⟨ad1, tid, z1, rfl, g64, htL, hai, had, hL1, by rw [ht]; exact hP, hDz z1, hz1, hfl⟩, hS.F ht⟩) hS.2.2 (show decode cL_fill 332 = .ok (.areturn, 1) from by decide +kernel) hlocks
    | succ n ih =>
      intro k hk H locs arr z1 hP hS hz1 hfl hl hok
      have hkm : (k : Int) < (many : Int) := by omega
      have hok0k := hok
      refine lv_iload hx hb (show decode cL_fill 12 = .ok (.iload 6, 2) from by decide +kernel) (pvLh_ld (v := vI (k : Int)) hl (k := 6) rfl) ?_
      refine lv_iload hx hb (show decode cL_fill 14 = .ok (.iload 4, 2) from by decide +kernel) (pvLh_ld (v := vI (many : Int)) hl (k := 4) rfl) ?_
      refine lv_icmp_ge hx hb (show decode cL_fill 16 = .ok (.if_icmp .ge 314, 3) from by decide +kernel) (tgt := 330) rfl (fun h9 => absurd h9 (Int32.not_le.mpr (sb_lt (a := k) (b := many) (by omega) (by omega)))) (fun _ => ?_)
      refine okL_fill19 (segc (1 + 20 * k) (70 + 200 * k) (by omega) (by omega)) (fr := fr) (slot := s9) (many := many) (t := tid) (k := k) (z := z1) hl60 ⟨hlm, ht60, hai2⟩ hkm (by omega) ⟨by omega, by omega⟩ (fun q a r w hr9 => ?_) hok (fun v hv => absurd hv List.not_mem_nil) hz1 H locs arr hP hS hl
      clear hl hok hP hS arr locs H
      intro hok hSt hz2 Ho locso arro hPo hSo hlo
      have hok12 := hok0k
      have e7 : ((fr : Int) + 6 * (k : Int)) = ((fr + 6 * k : Nat) : Int) := by omega
      rw [e7] at hlo
      have hlo : lv_has arro 11 [(0, .ref (ad1 0)), (1, .ref (ad1 60)), (2, .int (Int32.ofNat fr)), (3, .int (Int32.ofInt s9)), (4, .int (Int32.ofNat many)), (5, .ref (ad1 tid)), (6, .int (Int32.ofNat k)), (7, .int (Int32.ofNat (fr + 6 * k)))] := hlo.1
      obtain ⟨wn, rfl⟩ : ∃ wn : Nat, w = (wn : Int) := ⟨w.toNat, by omega⟩
      have hR : 10 ≤ mL_fill.frames ∧ 322 ≤ mL_fill.locals := ⟨Nat.le_refl _, Nat.le_refl _⟩
      have hAd : ∀ id ∈ L ++ [tid], A (ad1 id) := fun id hid => (hDz z1).2 _ _ (pvWs_get hid)
      have lit : ∀ (H : Heap) (locs : List Loc), va_S A s.heap H locs → ∀ j, j < 12 → tbK (adK j) (adV j) (txN.getD j []) s H := fun H locs hS j hj => tbK.of ((tx_lit hS9 j hj).kept hS.2.1)
      have inner : ∀ (n2 i : Nat), i + n2 = wn → ∀ (H : Heap) (locs : List Loc) (arr : Array Slot) (z3 : pvM) (ta tb : Nat) (xs : List Nat), va_P D vwCl (pvWs ad1 cI cJ cD (L ++ [tid]) z3) H → va_S A s.heap H locs → pvRng z3 → tbK ta tb xs s H → (∀ id ∈ L ++ [tid], ad1 id ≠ ta ∧ ad1 id ≠ tb) → dxP i xs (fun c => z3.1 tid (10 * k + 4 + c)) → frF [tid] [] z1 z3 → (∀ c, c < 10 * k + 4 → z3.1 tid c = rowF (z1.1 tid) k q a r wn c) → (∀ c, 10 * k + 4 + 3 * i ≤ c → z3.1 tid c = 0) → lv_has arr 11 [(9, .int (Int32.ofNat i)), (8, .ref ta), (0, .ref (ad1 0)), (1, .ref (ad1 60)), (2, .int (Int32.ofNat fr)), (3, .int (Int32.ofInt s9)), (4, .int (Int32.ofNat many)), (5, .ref (ad1 tid)), (6, .int (Int32.ofNat k)), (7, .int (Int32.ofNat (fr + 6 * k)))] → W p l e mL_fill s m ([vR 0, vR 60, vI (fr : Int), vI s9, vI (many : Int)].map (pvRe ad)).toArray below meth cQ H locs (1 + 20 * k + 9 * i) (70 + 200 * k + 90 * i) (MQ below (fun _ st o t => flQ D cI cJ cD ad L A z s9 many o t ∧ va_F A st t) ([vR 0, vR 60, vI (fr : Int), vI s9, vI (many : Int)].map (pvRe ad)).toArray s 1000 6000 A) (F0 m 107 arr []) := by
        intro n2
        induction n2 with
        | zero =>
          intro i hi H locs arr z3 ta tb xs hP hS hz3 htk hsep hdx hf3 hlow hhi hl
          obtain rfl : i = wn := by omega
          have h173 : z3.1 17 1 = 0 := by rw [hf3.1 17 (by simp; omega)]; exact hfl.2.2.2.2.1
          have e3 : z3.1 tid (10 * k + 3) = (i : Int) := by rw [hlow _ (by omega)]; simp [rowF]
          skip
          refine lv_iload hx hb (show decode cL_fill 107 = .ok (.iload 9, 2) from by decide +kernel) (lv_at hl 0 rfl) ?_
          refine lv_aload hx hb (show decode cL_fill 109 = .ok (.aload 5, 2) from by decide +kernel) (lv_at hl 7 rfl) ?_
          refine lv_bipush (v := 10) hx hb (show decode cL_fill 111 = .ok (.bipush 10, 2) from by decide +kernel) (by decide) ?_
          refine lv_iload hx hb (show decode cL_fill 113 = .ok (.iload 6, 2) from by decide +kernel) (lv_at hl 8 rfl) ?_
          refine lv_imul hx hb (show decode cL_fill 115 = .ok (.imul, 1) from by decide +kernel) ?_
          refine lv_topi fun y9 hy9 => ?_
          obtain rfl : y9 = Int32.ofNat (10 * k) := hy9.trans (by exact (Int32.ofNat_mul _ _).symm)
          refine lv_iconst (v := 3) hx hb (show decode cL_fill 116 = .ok (.iconst 3, 1) from by decide +kernel) (by decide) ?_
          refine lv_iadd hx hb (show decode cL_fill 117 = .ok (.iadd, 1) from by decide +kernel) ?_
          refine lv_topi fun y9 hy9 => ?_
          obtain rfl : y9 = Int32.ofNat ((10 * k) + 3) := hy9.trans (by exact sb_add _ _)
          refine fl_ld (N := 10 * many) (n := 10 * k + 3) hx hb hK ht1 hsh hP (by omega) (by omega) (show decode cL_fill 118 = .ok (.iaload, 1) from by decide +kernel) ?_
          rw [e3]
          refine lv_icmp_ge hx hb (show decode cL_fill 119 = .ok (.if_icmp .ge 159, 3) from by decide +kernel) (tgt := 278) rfl (fun _ => ?_) (fun h9 => absurd (Int32.le_refl _) h9)
          refine lv_aload_n hx hb (show decode cL_fill 278 = .ok (.aload_n 0, 1) from by decide +kernel) rfl (lv_at hl 2 rfl) ?_
          refine lv_aload hx hb (show decode cL_fill 279 = .ok (.aload 8, 2) from by decide +kernel) (lv_at hl 1 rfl) ?_
          refine fl_feed hf M hWc hL1 hsx1 hz3 hP (hDz _) hS hl.1 hR htk.lt hsep htk h173 (by have := (dxP_c hdx).1; omega) (dxP_c hdx).2 (show decode cL_fill 281 = .ok (.invokestatic 76, 3) from by decide +kernel) (by decide) ⟨by show _ ≤ 1000; omega, by show _ ≤ 6000; omega⟩ (fun H locs hP hS => ?_)
          refine W.widen (k := 1 + 20 * (k + 1)) (n := 70 + 200 * (k + 1)) (by omega) (by omega) ?_
          have hl9 : pvLh ad1 [some (vR 0), some (vR 60), some (vI (fr : Int)), some (vI s9), some (vI (many : Int)), some (vR tid), some (vI (k : Int)), none, none, none, none] arr 11 := ⟨lv_sub hl [2, 3, 4, 5, 6, 7, 8] rfl, rfl⟩
          have n4 : (apL z3 xs).1 17 1 = (xs.length : Int) := by rw [apL_n, h173]; omega
          have c4 : ∀ j : Nat, j < xs.length → (apL z3 xs).1 18 j = ((xs.getD j 0 : Nat) : Int) := fun j hj => by
            have := apL_18 z3 xs (by omega) j hj
            rw [h173] at this
            simpa using this
          obtain ⟨r1, r2, r3⟩ := dxP_r hdx c4
          rw [← n4] at r1 r2 r3
          have f4 := apL_f z3 xs
          have e34 : ∀ j, j ≠ 17 → j ≠ 18 → (apL z3 xs).1 j = z3.1 j := fun j h1 h2 => f4.1 j (by simp; omega)
          have e13 : ∀ j, j ≠ tid → z3.1 j = z1.1 j := fun j h => hf3.1 j (by simp; exact h)
          have e14 : ∀ j, j < 17 ∨ 18 < j ∧ j < 64 → (apL z3 xs).1 j = z1.1 j := fun j h => (e34 j (by omega) (by omega)).trans (e13 j (by omega))
          have et4 : (apL z3 xs).1 tid = z3.1 tid := e34 tid (by omega) (by omega)
          have er4 : (apL z3 xs).1 (rwC s9) = z1.1 (rwC s9) := e14 _ (by have := rw_l (s := s9); omega)
          have hz4 : pvRng (apL z3 xs) := apL_rng xs hz3 (fun x hx => ((dxP_c hdx).2 x hx).2) (by omega) (by have := (dxP_c hdx).1; omega)
          have rowv : z3.1 tid (10 * k) = q ∧ z3.1 tid (10 * k + 1) = a ∧ z3.1 tid (10 * k + 2) = r ∧ z3.1 tid (10 * k + 3) = (i : Int) := by
            refine ⟨?_, ?_, ?_, ?_⟩ <;> (rw [hlow _ (by omega)]; simp [rowF])
          refine okL_fill284 (segc (1 + 20 * (k + 1)) (70 + 200 * (k + 1)) (by omega) (by omega)) (fr := fr) (s := s9) (many := many) (q := q) (a := a) (r := r) (t := tid) (k := k) (z := apL z3 xs) hl00 ⟨hlm, ht60, hai2⟩ hkm (by omega) hs9 (by rw [et4]; exact ⟨rowv.1, rowv.2.1, rowv.2.2.1⟩) ⟨hr9.1, hr9.2.1, hr9.2.2.1⟩ ⟨?_, ⟨⟨by omega, by have := (dxP_c hdx).1; omega⟩, fun j hj => ?_⟩, ?_, ?_⟩ ?_ r1 (fun z5 f5 h5r h5s h5A h5W h5o h517 => ?_) hok12 (fun v hv => absurd hv List.not_mem_nil) hz4 H locs arr hP hS hl9
          · have := hfl.2.1
            unfold hiF at this ⊢
            rw [e14 36 (by omega)]
            exact this
          · have hj2 : j < xs.length := by omega
            have h9 := (dxP_c hdx).2 (xs.getD j 0) (by rw [List.getD_eq_getElem?_getD, List.getElem?_eq_getElem hj2]; exact List.getElem_mem hj2)
            rw [c4 j hj2]
            omega
          · rw [e14 2 (by omega)]; exact hfl.2.2.1.1
          · rw [e14 4 (by omega)]; exact hfl.2.2.1.2
          · rw [er4]; exact hfl.2.2.2.2.2.2.1.1
          · intro hok hSt hz5 H locs arr hP hS hl
            have ek : (k : Int) + 1 = ((k + 1 : Nat) : Int) := by omega
            rw [ek] at hok hl
            exact ih (k + 1) (by omega) H locs arr z5 hP hS hz5 (flS_s (w := (i : Int)) hfl g64 hs9 hf3 (fun c hc => by rw [hlow c (by omega)]; unfold rowF; rw [if_neg (by omega), if_neg (by omega), if_neg (by omega), if_neg (by omega)]) (fun c hc => hhi c (by omega)) rowv ⟨by omega, by omega⟩ (by rw [r2]) (fun c hc => r3 c (by omega)) (fun c hc1 hc2 => hhi _ (by omega)) f4 f5 h5r h5s h5A h5W h5o h517) hl hok
        | succ n2 ih2 =>
          intro i hi H locs arr z3 ta tb xs hP hS hz3 htk hsep hdx hf3 hlow hhi hl
          have h173 : z3.1 17 1 = 0 := by rw [hf3.1 17 (by simp; omega)]; exact hfl.2.2.2.2.1
          have e3 : z3.1 tid (10 * k + 3) = (wn : Int) := by rw [hlow _ (by omega)]; simp [rowF]
          skip
          refine lv_iload hx hb (show decode cL_fill 107 = .ok (.iload 9, 2) from by decide +kernel) (lv_at hl 0 rfl) ?_
          refine lv_aload hx hb (show decode cL_fill 109 = .ok (.aload 5, 2) from by decide +kernel) (lv_at hl 7 rfl) ?_
          refine lv_bipush (v := 10) hx hb (show decode cL_fill 111 = .ok (.bipush 10, 2) from by decide +kernel) (by decide) ?_
          refine lv_iload hx hb (show decode cL_fill 113 = .ok (.iload 6, 2) from by decide +kernel) (lv_at hl 8 rfl) ?_
          refine lv_imul hx hb (show decode cL_fill 115 = .ok (.imul, 1) from by decide +kernel) ?_
          refine lv_topi fun y9 hy9 => ?_
          obtain rfl : y9 = Int32.ofNat (10 * k) := hy9.trans (by exact (Int32.ofNat_mul _ _).symm)
          refine lv_iconst (v := 3) hx hb (show decode cL_fill 116 = .ok (.iconst 3, 1) from by decide +kernel) (by decide) ?_
          refine lv_iadd hx hb (show decode cL_fill 117 = .ok (.iadd, 1) from by decide +kernel) ?_
          refine lv_topi fun y9 hy9 => ?_
          obtain rfl : y9 = Int32.ofNat ((10 * k) + 3) := hy9.trans (by exact sb_add _ _)
          refine fl_ld (N := 10 * many) (n := 10 * k + 3) hx hb hK ht1 hsh hP (by omega) (by omega) (show decode cL_fill 118 = .ok (.iaload, 1) from by decide +kernel) ?_
          rw [e3]
          refine lv_icmp_ge hx hb (show decode cL_fill 119 = .ok (.if_icmp .ge 159, 3) from by decide +kernel) (tgt := 278) rfl (fun h9 => absurd h9 (Int32.not_le.mpr (sb_lt (by omega) (by omega)))) (fun _ => ?_)
          refine lv_aload_n hx hb (show decode cL_fill 122 = .ok (.aload_n 1, 1) from by decide +kernel) rfl (lv_at hl 3 rfl) ?_
          refine lv_iload hx hb (show decode cL_fill 123 = .ok (.iload 7, 2) from by decide +kernel) (lv_at hl 9 rfl) ?_
          refine lv_iconst (v := 4) hx hb (show decode cL_fill 125 = .ok (.iconst 4, 1) from by decide +kernel) (by decide) ?_
          refine lv_iadd hx hb (show decode cL_fill 126 = .ok (.iadd, 1) from by decide +kernel) ?_
          refine lv_topi fun y9 hy9 => ?_
          obtain rfl : y9 = Int32.ofNat ((fr + 6 * k) + 4) := hy9.trans (by exact sb_add _ _)
          refine lv_iload hx hb (show decode cL_fill 127 = .ok (.iload 9, 2) from by decide +kernel) (lv_at hl 0 rfl) ?_
          refine lv_iadd hx hb (show decode cL_fill 129 = .ok (.iadd, 1) from by decide +kernel) ?_
          refine lv_topi fun y9 hy9 => ?_
          obtain rfl : y9 = Int32.ofNat (((fr + 6 * k) + 4) + i) := hy9.trans (by exact sb_add _ _)
          refine fl_cell hf M hWc hL1 hsx1 hz3 hP (hDz _) hS hl.1 hR htk.lt hsep (n := (((fr + 6 * k) + 4) + i)) (by omega) (show decode cL_fill 130 = .ok (.invokestatic 8, 3) from by decide +kernel) (by decide) ⟨by show _ ≤ 1000; omega, by show _ ≤ 6000; omega⟩ (fun H locs hP hS e1 e2 => ?_)
          have htk := htk.kept e1 e2
          obtain ⟨dn, hdn, hdl⟩ := fl_ush (clS (pvScx sx) ((fr + 6 * k + 4 + i : Nat) : Int))
          refine lv_iconst (v := 1) hx hb (show decode cL_fill 133 = .ok (.iconst 1, 1) from by decide +kernel) (by decide) ?_
          refine lv_iushr (v := Int32.ofNat dn) hx hb (show decode cL_fill 134 = .ok (.iushr, 1) from by decide +kernel) hdn ?_
          refine lv_istore (lv' := [(10, .int (Int32.ofNat dn)), (9, .int (Int32.ofNat i)), (8, .ref ta), (0, .ref (ad1 0)), (1, .ref (ad1 60)), (2, .int (Int32.ofNat fr)), (3, .int (Int32.ofInt s9)), (4, .int (Int32.ofNat many)), (5, .ref (ad1 tid)), (6, .int (Int32.ofNat k)), (7, .int (Int32.ofNat (fr + 6 * k)))]) hx hb (show decode cL_fill 135 = .ok (.istore 10, 2) from by decide +kernel) hl (by decide) rfl (fun arr hl => ?_)
          have go216 : ∀ (x : Nat), (x : Int) = cxN (dn / 3 % 7) (dn / 21 % 4) → ∀ (H : Heap) (locs : List Loc), va_P D vwCl (pvWs ad1 cI cJ cD (L ++ [tid]) (pvUp (pvUp (pvUp z3.1 tid (10 * k + 4 + 3 * i) ((dn % 3 : Nat) : Int)) tid (10 * k + 5 + 3 * i) ((dn / 3 % 7 : Nat) : Int)) tid (10 * k + 6 + 3 * i) ((x : Nat) : Int), z3.2)) H → va_S A s.heap H locs → tbK ta tb xs s H → W p l e mL_fill s m ([vR 0, vR 60, vI (fr : Int), vI s9, vI (many : Int)].map (pvRe ad)).toArray below meth cQ H locs (1 + 20 * k + 9 * i + 1) (70 + 200 * k + 90 * i + 6) (MQ below (fun _ st o t => flQ D cI cJ cD ad L A z s9 many o t ∧ va_F A st t) ([vR 0, vR 60, vI (fr : Int), vI s9, vI (many : Int)].map (pvRe ad)).toArray s 1000 6000 A) (F0 m 216 arr []) := by
            intro x hxv H locs hP hS htk
            have hx9 : x < 4 := by
                  unfold cxN at hxv
                  split at hxv <;> omega
            have hS0 := hS
            have hP0 := hP
            have hlt := htk.lt
            have hR7 : 7 ≤ mL_fill.frames ∧ 240 ≤ mL_fill.locals := ⟨by decide, by decide⟩
            have hxl := (dxP_c hdx).1
            refine tx_new M hK hZ hA hS hl.1 hR7 (show decode cL_fill 216 = .ok (.new 36, 3) from by decide +kernel) (show decode cL_fill 219 = .ok (.dup, 1) from by decide +kernel) (show decode cL_fill 220 = .ok (.invokespecial 38, 3) from by decide +kernel) (by decide) ⟨by show _ ≤ 1000; omega, by show _ ≤ 6000; omega⟩ (fun h d H1 locs hPb hDb hF hh hd0 hS hFr => ?_)
            refine lv_aload hx hb (show decode cL_fill 223 = .ok (.aload 8, 2) from by decide +kernel) (lv_at hl 2 rfl) ?_
            refine tx_app M hK hZ hA hS hl.1 hR7 (H0 := H) hPb hDb hF (tbL_old (htk.at (Nat.not_le.mpr hlt.1) (Nat.not_le.mpr hlt.2)) hFr hh hd0) hFr hh hd0 (by simp; omega) (fun y hy => by have := (dxP_c hdx).2 y hy; omega) (show decode cL_fill 225 = .ok (.invokevirtual 39, 3) from by decide +kernel) (Nat.le_of_ble_eq_true rfl) ⟨by show _ ≤ 1000; omega, by show _ ≤ 6000; omega⟩ (fun f1 H1 locs hPb hDb hF hS hFr => ?_)
            have go240 : ∀ (ta2 tb2 : Nat) (ys : List Nat), ys = (if 0 < i then [38] else []) → tbL (fun q => H.size ≤ q) ta2 tb2 ys s H → W p l e mL_fill s m ([vR 0, vR 60, vI (fr : Int), vI s9, vI (many : Int)].map (pvRe ad)).toArray below meth cQ H1 locs (1 + 20 * k + 9 * i + 1 + 2) (70 + 200 * k + 90 * i + 6 + 20) (MQ below (fun _ st o t => flQ D cI cJ cD ad L A z s9 many o t ∧ va_F A st t) ([vR 0, vR 60, vI (fr : Int), vI s9, vI (many : Int)].map (pvRe ad)).toArray s 1000 6000 A) (F0 m 240 arr [.ref ta2, .ref h]) := by
              intro ta2 tb2 ys hys hq2
              have hyl : ys.length ≤ 1 := by rw [hys]; split <;> decide
              have hy38 : ∀ y ∈ ys, y < 128 := by rw [hys]; split <;> decide
              refine tx_app M hK hZ hA hS hl.1 hR7 (H0 := H) hPb hDb hF (tbL_old hq2 hFr hh hd0) hFr hh hd0 (by simp; omega) hy38 (show decode cL_fill 240 = .ok (.invokevirtual 39, 3) from by decide +kernel) (Nat.le_of_ble_eq_true rfl) ⟨by show _ ≤ 1000; omega, by show _ ≤ 6000; omega⟩ (fun f1 H1 locs hPb hDb hF hS hFr => ?_)
              refine lv_iload hx hb (show decode cL_fill 243 = .ok (.iload 10, 2) from by decide +kernel) (lv_at hl 0 rfl) ?_
              refine lv_iconst (v := 3) hx hb (show decode cL_fill 245 = .ok (.iconst 3, 1) from by decide +kernel) (by decide) ?_
              refine lv_irem hx hb (show decode cL_fill 246 = .ok (.irem, 1) from by decide +kernel) (by decide) ?_
              refine lv_topi fun y9 hy9 => ?_
              obtain rfl : y9 = Int32.ofNat (dn % 3) := hy9.trans (by exact sb_rem (by omega) (by decide) (by decide))
              refine lv_iload hx hb (show decode cL_fill 247 = .ok (.iload 10, 2) from by decide +kernel) (lv_at hl 0 rfl) ?_
              refine lv_iconst (v := 3) hx hb (show decode cL_fill 249 = .ok (.iconst 3, 1) from by decide +kernel) (by decide) ?_
              refine lv_idiv hx hb (show decode cL_fill 250 = .ok (.idiv, 1) from by decide +kernel) (by decide) ?_
              refine lv_topi fun y9 hy9 => ?_
              obtain rfl : y9 = Int32.ofNat (dn / 3) := hy9.trans (by exact sb_div (by omega) (by decide) (by decide))
              refine lv_bipush (v := 7) hx hb (show decode cL_fill 251 = .ok (.bipush 7, 2) from by decide +kernel) (by decide) ?_
              refine lv_irem hx hb (show decode cL_fill 253 = .ok (.irem, 1) from by decide +kernel) (by decide) ?_
              refine lv_topi fun y9 hy9 => ?_
              obtain rfl : y9 = Int32.ofNat ((dn / 3) % 7) := hy9.trans (by exact sb_rem (by omega) (by decide) (by decide))
              refine lv_iload hx hb (show decode cL_fill 254 = .ok (.iload 10, 2) from by decide +kernel) (lv_at hl 0 rfl) ?_
              refine lv_bipush (v := 21) hx hb (show decode cL_fill 256 = .ok (.bipush 21, 2) from by decide +kernel) (by decide) ?_
              refine lv_idiv hx hb (show decode cL_fill 258 = .ok (.idiv, 1) from by decide +kernel) (by decide) ?_
              refine lv_topi fun y9 hy9 => ?_
              obtain rfl : y9 = Int32.ofNat (dn / 21) := hy9.trans (by exact sb_div (by omega) (by decide) (by decide))
              refine lv_iconst (v := 4) hx hb (show decode cL_fill 259 = .ok (.iconst 4, 1) from by decide +kernel) (by decide) ?_
              refine lv_irem hx hb (show decode cL_fill 260 = .ok (.irem, 1) from by decide +kernel) (by decide) ?_
              refine lv_topi fun y9 hy9 => ?_
              obtain rfl : y9 = Int32.ofNat ((dn / 21) % 4) := hy9.trans (by exact sb_rem (by omega) (by decide) (by decide))
              have hcl := @cxS_n (dn % 3) (dn / 3 % 7) (dn / 21 % 4)
              refine tx_con M hK hTx hA hS hl.1 ⟨by decide, by decide⟩ (k0 := dn % 3) (k1 := dn / 3 % 7) (k2 := dn / 21 % 4) (by omega) (by omega) (by omega) (show decode cL_fill 261 = .ok (.invokestatic 72, 3) from by decide +kernel) (Nat.le_of_ble_eq_true rfl) ⟨by show _ ≤ 1000; omega, by show _ ≤ 6000; omega⟩ (fun a2 b2 g2 H2 locs ha2 hb2 hPc hg2 hS hF2 => ?_)
              have hlh := (hPb 0 _ rfl).lt
              have hld := (hPb 1 _ rfl).lt
              have hla := (hPc 0 _ rfl).lt
              have hlb := (hPc 1 _ rfl).lt
              have hPb := hPb.kept (fun k q hq => hF2.2 _ (hPb k q hq).lt)
              have hFr := hFr.tr hF2
              have hq3 : tbL (sbA1 h d H2.size) a2 b2 (cxS (dn % 3) (dn / 3 % 7) (dn / 21 % 4)) s H2 := sbQ_ext (sbQ_of hts hK hPc (i := 0) (j := 1) rfl rfl (by omega) (fun h9 => by rcases h9 with h9 | h9 | h9 <;> simp only at hlh hld hla hlb <;> omega) (fun h9 => by rcases h9 with h9 | h9 | h9 <;> simp only at hlh hld hla hlb <;> omega)) hg2
              refine tx_app M hK hZ hA hS hl.1 hR7 (H0 := H) hPb hDb hF hq3 hFr hh hd0 (by simp; omega) (fun y hy => by have := cxS_c (k1 := dn / 3 % 7) (show dn % 3 < 3 by omega) (show dn / 21 % 4 < 4 by omega) y hy; omega) (show decode cL_fill 264 = .ok (.invokevirtual 39, 3) from by decide +kernel) (Nat.le_of_ble_eq_true rfl) ⟨by show _ ≤ 1000; omega, by show _ ≤ 6000; omega⟩ (fun f1 H1 locs hPb hDb hF hS hFr => ?_)
              refine tx_str M hK hZ hA hS hl.1 hR7 (H0 := H) hPb hDb hF hFr hh hd0 (by simp; omega) ?_ (show decode cL_fill 267 = .ok (.invokevirtual 45, 3) from by decide +kernel) (Nat.le_of_ble_eq_true rfl) ⟨by show _ ≤ 1000; omega, by show _ ≤ 6000; omega⟩ (fun a9 b9 g9 H3 locs ha9 hb9 hP9 hg9 hD9 hS hFr3 => ?_)
              · intro y hy
                simp only [List.nil_append, List.mem_append] at hy
                rcases hy with (hy | hy) | hy
                · have := (dxP_c hdx).2 y hy; omega
                · exact hy38 y hy
                · have := cxS_c (k1 := dn / 3 % 7) (show dn % 3 < 3 by omega) (show dn / 21 % 4 < 4 by omega) y hy; omega
              refine lv_astore (lv' := [(8, .ref a9), (10, .int (Int32.ofNat dn)), (9, .int (Int32.ofNat i)), (0, .ref (ad1 0)), (1, .ref (ad1 60)), (2, .int (Int32.ofNat fr)), (3, .int (Int32.ofInt s9)), (4, .int (Int32.ofNat many)), (5, .ref (ad1 tid)), (6, .int (Int32.ofNat k)), (7, .int (Int32.ofNat (fr + 6 * k)))]) hx hb (show decode cL_fill 270 = .ok (.astore 8, 2) from by decide +kernel) hl (by decide) rfl (fun arr hl => ?_)
              refine lv_iinc (lv' := [(9, .int (Int32.ofNat (i + 1))), (8, .ref a9), (10, .int (Int32.ofNat dn)), (0, .ref (ad1 0)), (1, .ref (ad1 60)), (2, .int (Int32.ofNat fr)), (3, .int (Int32.ofInt s9)), (4, .int (Int32.ofNat many)), (5, .ref (ad1 tid)), (6, .int (Int32.ofNat k)), (7, .int (Int32.ofNat (fr + 6 * k)))]) hx hb (show decode cL_fill 272 = .ok (.iinc 9 1, 3) from by decide +kernel) hl (k := 2) rfl (sb_add i 1) (by decide) rfl (fun arr hl => ?_)
              refine lv_goto hx hb (show decode cL_fill 275 = .ok (.goto (-168), 3) from by decide +kernel) (tgt := 107) rfl ?_
              refine W.widen (k := 1 + 20 * k + 9 * (i + 1)) (n := 70 + 200 * k + 90 * (i + 1)) (by omega) (by omega) ?_
              have zE : ∀ c, (pvUp (pvUp (pvUp z3.1 tid (10 * k + 4 + 3 * i) ((dn % 3 : Nat) : Int)) tid (10 * k + 5 + 3 * i) ((dn / 3 % 7 : Nat) : Int)) tid (10 * k + 6 + 3 * i) ((x : Nat) : Int), z3.2).1 tid c = if c = 10 * k + 6 + 3 * i then ((x : Nat) : Int) else if c = 10 * k + 5 + 3 * i then ((dn / 3 % 7 : Nat) : Int) else if c = 10 * k + 4 + 3 * i then ((dn % 3 : Nat) : Int) else z3.1 tid c := by
                intro c
                show pvUp _ tid _ _ tid c = _
                rw [pvUp_eq, pvUp_eq, pvUp_eq]
              refine ih2 (i + 1) (by omega) H3 locs arr (pvUp (pvUp (pvUp z3.1 tid (10 * k + 4 + 3 * i) ((dn % 3 : Nat) : Int)) tid (10 * k + 5 + 3 * i) ((dn / 3 % 7 : Nat) : Int)) tid (10 * k + 6 + 3 * i) ((x : Nat) : Int), z3.2) a9 b9 (xs ++ (if 0 < i then [38] else []) ++ cxS (dn % 3) (dn / 3 % 7) (dn / 21 % 4)) (hP0.kept (fun k q hq => hFr3.2 _ (hP0 k q hq).lt)) hS (pvRng_u (pvRng_u (pvRng_u hz3 (sb_rg (by omega))) (sb_rg (by omega))) (sb_rg (by omega))) ?_ (fun id hid => ?_) ?_ ?_ (fun c hc => ?_) (fun c hc => ?_) (lv_sub hl [0, 1, 3, 4, 5, 6, 7, 8, 9, 10] rfl)
              · rw [← hys]
                exact sbQ_ext (sbQ_of hts hK hP9 (i := 0) (j := 1) rfl rfl (by simp; omega) (fun h => h.1 rfl) (fun h => h.2 rfl)) hg9
              · have h9 := (hP0 _ _ (pvWs_get hid)).lt
                have h8 := hFr.1
                simp only at h9
                exact ⟨by omega, by omega⟩
              · refine dxP_s hdx (by omega) ⟨by omega, by omega, by omega⟩ (fun c hc => ?_) ?_ ?_ ?_
                · show (pvUp (pvUp (pvUp z3.1 tid (10 * k + 4 + 3 * i) ((dn % 3 : Nat) : Int)) tid (10 * k + 5 + 3 * i) ((dn / 3 % 7 : Nat) : Int)) tid (10 * k + 6 + 3 * i) ((x : Nat) : Int), z3.2).1 tid (10 * k + 4 + c) = _
                  rw [zE, if_neg (by omega), if_neg (by omega), if_neg (by omega)]
                · show (pvUp (pvUp (pvUp z3.1 tid (10 * k + 4 + 3 * i) ((dn % 3 : Nat) : Int)) tid (10 * k + 5 + 3 * i) ((dn / 3 % 7 : Nat) : Int)) tid (10 * k + 6 + 3 * i) ((x : Nat) : Int), z3.2).1 tid (10 * k + 4 + 3 * i) = _
                  rw [zE, if_neg (by omega), if_neg (by omega), if_pos rfl]
                · show (pvUp (pvUp (pvUp z3.1 tid (10 * k + 4 + 3 * i) ((dn % 3 : Nat) : Int)) tid (10 * k + 5 + 3 * i) ((dn / 3 % 7 : Nat) : Int)) tid (10 * k + 6 + 3 * i) ((x : Nat) : Int), z3.2).1 tid (10 * k + 4 + (3 * i + 1)) = _
                  rw [zE, if_neg (by omega), if_pos (by omega)]
                · show (pvUp (pvUp (pvUp z3.1 tid (10 * k + 4 + 3 * i) ((dn % 3 : Nat) : Int)) tid (10 * k + 5 + 3 * i) ((dn / 3 % 7 : Nat) : Int)) tid (10 * k + 6 + 3 * i) ((x : Nat) : Int), z3.2).1 tid (10 * k + 4 + (3 * i + 2)) = _
                  rw [zE, if_pos (by omega)]
                  exact hxv
              · exact frF_t hf3 (frF_u (frF_u (frF_u frF_0 (by simp)) (by simp)) (by simp)) (fun _ h => h) (fun _ h => h)
              · rw [zE, if_neg (by omega), if_neg (by omega), if_neg (by omega)]
                exact hlow c hc
              · rw [zE, if_neg (by omega), if_neg (by omega), if_neg (by omega)]
                exact hhi c (by omega)
            refine lv_iload hx hb (show decode cL_fill 228 = .ok (.iload 9, 2) from by decide +kernel) (lv_at hl 1 rfl) ?_
            by_cases hi0 : i = 0
            · refine lv_if_le hx hb (show decode cL_fill 230 = .ok (.ifCond .le 8, 3) from by decide +kernel) (tgt := 238) rfl (fun _ => ?_) (fun h9 => absurd (sb_le (a := i) (b := 0) (by omega) (by decide)) h9)
              refine va_ldcS hx hb hown (hR9 0 (by decide)) (show decode cL_fill 238 = .ok (.ldc 68, 2) from by decide +kernel) ?_
              have h0 := lit H _ hS0 0 (by decide)
              exact go240 _ _ [] (by rw [if_neg (by omega)]) (h0.at (Nat.not_le.mpr h0.lt.1) (Nat.not_le.mpr h0.lt.2))
            · refine lv_if_le hx hb (show decode cL_fill 230 = .ok (.ifCond .le 8, 3) from by decide +kernel) (tgt := 238) rfl (fun h9 => absurd h9 (Int32.not_le.mpr (sb_lt (a := 0) (b := i) (by omega) (by omega)))) (fun _ => ?_)
              refine va_ldcS hx hb hown (hR9 1 (by decide)) (show decode cL_fill 233 = .ok (.ldc 70, 2) from by decide +kernel) ?_
              refine lv_goto hx hb (show decode cL_fill 235 = .ok (.goto 5, 3) from by decide +kernel) (tgt := 240) rfl ?_
              have h0 := lit H _ hS0 1 (by decide)
              exact go240 _ _ [38] (by rw [if_pos (by omega)]) (h0.at (Nat.not_le.mpr h0.lt.1) (Nat.not_le.mpr h0.lt.2))
          refine lv_aload hx hb (show decode cL_fill 137 = .ok (.aload 5, 2) from by decide +kernel) (lv_at hl 8 rfl) ?_
          refine lv_bipush (v := 10) hx hb (show decode cL_fill 139 = .ok (.bipush 10, 2) from by decide +kernel) (by decide) ?_
          refine lv_iload hx hb (show decode cL_fill 141 = .ok (.iload 6, 2) from by decide +kernel) (lv_at hl 9 rfl) ?_
          refine lv_imul hx hb (show decode cL_fill 143 = .ok (.imul, 1) from by decide +kernel) ?_
          refine lv_topi fun y9 hy9 => ?_
          obtain rfl : y9 = Int32.ofNat (10 * k) := hy9.trans (by exact (Int32.ofNat_mul _ _).symm)
          refine lv_iconst (v := 4) hx hb (show decode cL_fill 144 = .ok (.iconst 4, 1) from by decide +kernel) (by decide) ?_
          refine lv_iadd hx hb (show decode cL_fill 145 = .ok (.iadd, 1) from by decide +kernel) ?_
          refine lv_topi fun y9 hy9 => ?_
          obtain rfl : y9 = Int32.ofNat ((10 * k) + 4) := hy9.trans (by exact sb_add _ _)
          refine lv_iconst (v := 3) hx hb (show decode cL_fill 146 = .ok (.iconst 3, 1) from by decide +kernel) (by decide) ?_
          refine lv_iload hx hb (show decode cL_fill 147 = .ok (.iload 9, 2) from by decide +kernel) (lv_at hl 1 rfl) ?_
          refine lv_imul hx hb (show decode cL_fill 149 = .ok (.imul, 1) from by decide +kernel) ?_
          refine lv_topi fun y9 hy9 => ?_
          obtain rfl : y9 = Int32.ofNat (3 * i) := hy9.trans (by exact (Int32.ofNat_mul _ _).symm)
          refine lv_iadd hx hb (show decode cL_fill 150 = .ok (.iadd, 1) from by decide +kernel) ?_
          refine lv_topi fun y9 hy9 => ?_
          obtain rfl : y9 = Int32.ofNat (((10 * k) + 4) + (3 * i)) := hy9.trans (by exact sb_add _ _)
          refine lv_iload hx hb (show decode cL_fill 151 = .ok (.iload 10, 2) from by decide +kernel) (lv_at hl 0 rfl) ?_
          refine lv_iconst (v := 3) hx hb (show decode cL_fill 153 = .ok (.iconst 3, 1) from by decide +kernel) (by decide) ?_
          refine lv_irem hx hb (show decode cL_fill 154 = .ok (.irem, 1) from by decide +kernel) (by decide) ?_
          refine lv_topi fun y9 hy9 => ?_
          obtain rfl : y9 = Int32.ofNat (dn % 3) := hy9.trans (by exact sb_rem (by omega) (by decide) (by decide))
          refine fl_st (N := 10 * many) hx hb hK hL1 ht1 hsh hP hDz hS (n := (((10 * k) + 4) + (3 * i))) (x := (((dn % 3) : Nat) : Int)) ⟨rfl, rfl⟩ (by omega) (by omega) (show decode cL_fill 155 = .ok (.iastore, 1) from by decide +kernel) (fun H locs hP hS _ hfr9 => ?_)
          have htk := htk.kept (hfr9 _ (hsep tid ht1).1.symm) (hfr9 _ (hsep tid ht1).2.symm)
          refine lv_aload hx hb (show decode cL_fill 156 = .ok (.aload 5, 2) from by decide +kernel) (lv_at hl 8 rfl) ?_
          refine lv_bipush (v := 10) hx hb (show decode cL_fill 158 = .ok (.bipush 10, 2) from by decide +kernel) (by decide) ?_
          refine lv_iload hx hb (show decode cL_fill 160 = .ok (.iload 6, 2) from by decide +kernel) (lv_at hl 9 rfl) ?_
          refine lv_imul hx hb (show decode cL_fill 162 = .ok (.imul, 1) from by decide +kernel) ?_
          refine lv_topi fun y9 hy9 => ?_
          obtain rfl : y9 = Int32.ofNat (10 * k) := hy9.trans (by exact (Int32.ofNat_mul _ _).symm)
          refine lv_iconst (v := 5) hx hb (show decode cL_fill 163 = .ok (.iconst 5, 1) from by decide +kernel) (by decide) ?_
          refine lv_iadd hx hb (show decode cL_fill 164 = .ok (.iadd, 1) from by decide +kernel) ?_
          refine lv_topi fun y9 hy9 => ?_
          obtain rfl : y9 = Int32.ofNat ((10 * k) + 5) := hy9.trans (by exact sb_add _ _)
          refine lv_iconst (v := 3) hx hb (show decode cL_fill 165 = .ok (.iconst 3, 1) from by decide +kernel) (by decide) ?_
          refine lv_iload hx hb (show decode cL_fill 166 = .ok (.iload 9, 2) from by decide +kernel) (lv_at hl 1 rfl) ?_
          refine lv_imul hx hb (show decode cL_fill 168 = .ok (.imul, 1) from by decide +kernel) ?_
          refine lv_topi fun y9 hy9 => ?_
          obtain rfl : y9 = Int32.ofNat (3 * i) := hy9.trans (by exact (Int32.ofNat_mul _ _).symm)
          refine lv_iadd hx hb (show decode cL_fill 169 = .ok (.iadd, 1) from by decide +kernel) ?_
          refine lv_topi fun y9 hy9 => ?_
          obtain rfl : y9 = Int32.ofNat (((10 * k) + 5) + (3 * i)) := hy9.trans (by exact sb_add _ _)
          refine lv_iload hx hb (show decode cL_fill 170 = .ok (.iload 10, 2) from by decide +kernel) (lv_at hl 0 rfl) ?_
          refine lv_iconst (v := 3) hx hb (show decode cL_fill 172 = .ok (.iconst 3, 1) from by decide +kernel) (by decide) ?_
          refine lv_idiv hx hb (show decode cL_fill 173 = .ok (.idiv, 1) from by decide +kernel) (by decide) ?_
          refine lv_topi fun y9 hy9 => ?_
          obtain rfl : y9 = Int32.ofNat (dn / 3) := hy9.trans (by exact sb_div (by omega) (by decide) (by decide))
          refine lv_bipush (v := 7) hx hb (show decode cL_fill 174 = .ok (.bipush 7, 2) from by decide +kernel) (by decide) ?_
          refine lv_irem hx hb (show decode cL_fill 176 = .ok (.irem, 1) from by decide +kernel) (by decide) ?_
          refine lv_topi fun y9 hy9 => ?_
          obtain rfl : y9 = Int32.ofNat ((dn / 3) % 7) := hy9.trans (by exact sb_rem (by omega) (by decide) (by decide))
          refine fl_st (N := 10 * many) hx hb hK hL1 ht1 hsh hP hDz hS (n := (((10 * k) + 5) + (3 * i))) (x := ((((dn / 3) % 7) : Nat) : Int)) ⟨rfl, rfl⟩ (by omega) (by omega) (show decode cL_fill 177 = .ok (.iastore, 1) from by decide +kernel) (fun H locs hP hS _ hfr9 => ?_)
          have htk := htk.kept (hfr9 _ (hsep tid ht1).1.symm) (hfr9 _ (hsep tid ht1).2.symm)
          refine lv_aload hx hb (show decode cL_fill 178 = .ok (.aload 5, 2) from by decide +kernel) (lv_at hl 8 rfl) ?_
          refine lv_bipush (v := 10) hx hb (show decode cL_fill 180 = .ok (.bipush 10, 2) from by decide +kernel) (by decide) ?_
          refine lv_iload hx hb (show decode cL_fill 182 = .ok (.iload 6, 2) from by decide +kernel) (lv_at hl 9 rfl) ?_
          refine lv_imul hx hb (show decode cL_fill 184 = .ok (.imul, 1) from by decide +kernel) ?_
          refine lv_topi fun y9 hy9 => ?_
          obtain rfl : y9 = Int32.ofNat (10 * k) := hy9.trans (by exact (Int32.ofNat_mul _ _).symm)
          refine lv_bipush (v := 6) hx hb (show decode cL_fill 185 = .ok (.bipush 6, 2) from by decide +kernel) (by decide) ?_
          refine lv_iadd hx hb (show decode cL_fill 187 = .ok (.iadd, 1) from by decide +kernel) ?_
          refine lv_topi fun y9 hy9 => ?_
          obtain rfl : y9 = Int32.ofNat ((10 * k) + 6) := hy9.trans (by exact sb_add _ _)
          refine lv_iconst (v := 3) hx hb (show decode cL_fill 188 = .ok (.iconst 3, 1) from by decide +kernel) (by decide) ?_
          refine lv_iload hx hb (show decode cL_fill 189 = .ok (.iload 9, 2) from by decide +kernel) (lv_at hl 1 rfl) ?_
          refine lv_imul hx hb (show decode cL_fill 191 = .ok (.imul, 1) from by decide +kernel) ?_
          refine lv_topi fun y9 hy9 => ?_
          obtain rfl : y9 = Int32.ofNat (3 * i) := hy9.trans (by exact (Int32.ofNat_mul _ _).symm)
          refine lv_iadd hx hb (show decode cL_fill 192 = .ok (.iadd, 1) from by decide +kernel) ?_
          refine lv_topi fun y9 hy9 => ?_
          obtain rfl : y9 = Int32.ofNat (((10 * k) + 6) + (3 * i)) := hy9.trans (by exact sb_add _ _)
          refine lv_iload hx hb (show decode cL_fill 193 = .ok (.iload 10, 2) from by decide +kernel) (lv_at hl 0 rfl) ?_
          refine lv_iconst (v := 3) hx hb (show decode cL_fill 195 = .ok (.iconst 3, 1) from by decide +kernel) (by decide) ?_
          refine lv_idiv hx hb (show decode cL_fill 196 = .ok (.idiv, 1) from by decide +kernel) (by decide) ?_
          refine lv_topi fun y9 hy9 => ?_
          obtain rfl : y9 = Int32.ofNat (dn / 3) := hy9.trans (by exact sb_div (by omega) (by decide) (by decide))
          refine lv_bipush (v := 7) hx hb (show decode cL_fill 197 = .ok (.bipush 7, 2) from by decide +kernel) (by decide) ?_
          refine lv_irem hx hb (show decode cL_fill 199 = .ok (.irem, 1) from by decide +kernel) (by decide) ?_
          refine lv_topi fun y9 hy9 => ?_
          obtain rfl : y9 = Int32.ofNat ((dn / 3) % 7) := hy9.trans (by exact sb_rem (by omega) (by decide) (by decide))
          refine lv_iconst (v := 5) hx hb (show decode cL_fill 200 = .ok (.iconst 5, 1) from by decide +kernel) (by decide) ?_
          by_cases h5 : 5 ≤ dn / 3 % 7
          · refine lv_icmp_ge hx hb (show decode cL_fill 201 = .ok (.if_icmp .ge 13, 3) from by decide +kernel) (tgt := 214) rfl (fun _ => ?_) (fun h9 => absurd (sb_le (a := 5) (b := dn / 3 % 7) h5 (by omega)) h9)
            refine lv_iconst (v := 0) hx hb (show decode cL_fill 214 = .ok (.iconst 0, 1) from by decide +kernel) (by decide) ?_
            refine fl_st (N := 10 * many) hx hb hK hL1 ht1 hsh hP hDz hS (n := (((10 * k) + 6) + (3 * i))) (x := ((0 : Nat) : Int)) ⟨rfl, rfl⟩ (by omega) (by omega) (show decode cL_fill 215 = .ok (.iastore, 1) from by decide +kernel) (fun H locs hP hS _ hfr9 => ?_)
            have htk := htk.kept (hfr9 _ (hsep tid ht1).1.symm) (hfr9 _ (hsep tid ht1).2.symm)
            exact go216 0 (by unfold cxN; rw [if_neg (by omega)]; rfl) H locs hP hS htk
          · refine lv_icmp_ge hx hb (show decode cL_fill 201 = .ok (.if_icmp .ge 13, 3) from by decide +kernel) (tgt := 214) rfl (fun h9 => absurd h9 (Int32.not_le.mpr (sb_lt (a := dn / 3 % 7) (b := 5) (by omega) (by decide)))) (fun _ => ?_)
            refine lv_iload hx hb (show decode cL_fill 204 = .ok (.iload 10, 2) from by decide +kernel) (lv_at hl 0 rfl) ?_
            refine lv_bipush (v := 21) hx hb (show decode cL_fill 206 = .ok (.bipush 21, 2) from by decide +kernel) (by decide) ?_
            refine lv_idiv hx hb (show decode cL_fill 208 = .ok (.idiv, 1) from by decide +kernel) (by decide) ?_
            refine lv_topi fun y9 hy9 => ?_
            obtain rfl : y9 = Int32.ofNat (dn / 21) := hy9.trans (by exact sb_div (by omega) (by decide) (by decide))
            refine lv_iconst (v := 4) hx hb (show decode cL_fill 209 = .ok (.iconst 4, 1) from by decide +kernel) (by decide) ?_
            refine lv_irem hx hb (show decode cL_fill 210 = .ok (.irem, 1) from by decide +kernel) (by decide) ?_
            refine lv_topi fun y9 hy9 => ?_
            obtain rfl : y9 = Int32.ofNat ((dn / 21) % 4) := hy9.trans (by exact sb_rem (by omega) (by decide) (by decide))
            refine lv_goto hx hb (show decode cL_fill 211 = .ok (.goto 4, 3) from by decide +kernel) (tgt := 215) rfl ?_
            refine fl_st (N := 10 * many) hx hb hK hL1 ht1 hsh hP hDz hS (n := (((10 * k) + 6) + (3 * i))) (x := ((((dn / 21) % 4) : Nat) : Int)) ⟨rfl, rfl⟩ (by omega) (by omega) (show decode cL_fill 215 = .ok (.iastore, 1) from by decide +kernel) (fun H locs hP hS _ hfr9 => ?_)
            have htk := htk.kept (hfr9 _ (hsep tid ht1).1.symm) (hfr9 _ (hsep tid ht1).2.symm)
            exact go216 (dn / 21 % 4) (by unfold cxN; rw [if_pos (by omega)]) H locs hP hS htk
      refine va_ldcS hx hb hown (hR9 0 (by decide)) (show decode cL_fill 100 = .ok (.ldc 68, 2) from by decide +kernel) ?_
      refine lv_astore (lv' := [(8, .ref (adK 0)), (0, .ref (ad1 0)), (1, .ref (ad1 60)), (2, .int (Int32.ofNat fr)), (3, .int (Int32.ofInt s9)), (4, .int (Int32.ofNat many)), (5, .ref (ad1 tid)), (6, .int (Int32.ofNat k)), (7, .int (Int32.ofNat (fr + 6 * k)))]) hx hb (show decode cL_fill 102 = .ok (.astore 8, 2) from by decide +kernel) hlo (by decide) rfl (fun arr hl => ?_)
      refine lv_iconst (v := 0) hx hb (show decode cL_fill 104 = .ok (.iconst 0, 1) from by decide +kernel) (by decide) ?_
      refine lv_istore (lv' := [(9, .int (Int32.ofNat 0)), (8, .ref (adK 0)), (0, .ref (ad1 0)), (1, .ref (ad1 60)), (2, .int (Int32.ofNat fr)), (3, .int (Int32.ofInt s9)), (4, .int (Int32.ofNat many)), (5, .ref (ad1 tid)), (6, .int (Int32.ofNat k)), (7, .int (Int32.ofNat (fr + 6 * k)))]) hx hb (show decode cL_fill 105 = .ok (.istore 9, 2) from by decide +kernel) hl (by decide) rfl (fun arr hl => ?_)
      refine W.widen (k := 1 + 20 * k + 9 * 0) (n := 70 + 200 * k + 90 * 0) (by omega) (by omega) ?_
      have nA : ¬ A (adK 0) ∧ ¬ A (adV 0) := by
        obtain ⟨⟨c1, p1, p2, p3, n1⟩, -, -, c4, s1, s2, s3, s4, s5, s6, n2⟩ := tx_lit hS9 0 (by decide)
        exact ⟨n1, n2⟩
      refine inner wn 0 (by omega) Ho locso arr _ (adK 0) (adV 0) [] hPo hSo hz2 (lit Ho locso hSo 0 (by decide)) (fun id hid => ⟨fun e => nA.1 (e ▸ hAd id hid), fun e => nA.2 (e ▸ hAd id hid)⟩) (Or.inl ⟨rfl, rfl⟩) (frF_s frF_0 (by simp)) (fun c hc => ?_) (fun c hc => ?_) hl
      · show pvSt z1.1 tid _ tid c = _
        rw [pvSt_eq]
      · show pvSt z1.1 tid _ tid c = _
        rw [pvSt_eq]
        unfold rowF
        rw [if_neg (by omega), if_neg (by omega), if_neg (by omega), if_neg (by omega)]
        exact hfl.2.2.2.2.2.2.2.2 c (by omega)
  refine W.widen (k := 1 + 20 * 0) (n := 70 + 200 * 0) (by omega) (by omega) ?_
  exact outer many 0 (by omega) H _ arr (pvZr z tid) hP hS (pvZr_rng hz _) hfl0 hl3 hok1
