/-! a call -/
theorem pv_push (ad : Nat → Nat) (v : Option pvV) (rest : List pvV) : (v.map (pvRe ad)).toList ++ rest.map (pvRe ad) = (pvPush v rest).map (pvRe ad) := by
  cases v <;> rfl
theorem pvOkS_push {v : Option pvV} {rest : List pvV} (h1 : ∀ x, v = some x → pvOk x) (h2 : pvOkS rest) : pvOkS (pvPush v rest) := by
  cases v with
  | none => exact h2
  | some x => exact pvOkS_c (h1 x rfl) h2
theorem pvPw_blind (ad : Nat → Nat) (D : va_G) (cI cJ cD : ClassId) (sx : pvSx) (L : List Nat) (A : Nat → Prop) (z : pvM) (av : List Value) : FrameBlind (va_Pc av (pvPw ad D cI cJ cD sx L A z)) :=
  fun a U g mk h => ⟨h.1, pvWc_blind g mk a h.2.1, h.2.2.1, h.2.2.2⟩
theorem pvGood_c {Tb : List Jvm.Cond} (hTb : ∀ w ∈ Tb, goodWord w = true) {c : Jvm.Cond} (hc : c ∈ Tb) : GoodIn Tb (c :: Tb) := by
  intro w hw
  rcases List.mem_cons.mp hw with rfl | h
  · exact ⟨hc, good_of_word (hTb _ hc)⟩
  · exact ⟨h, good_of_word (hTb _ h)⟩
theorem va_F_trans0 {A : Nat → Prop} {s : State} {H : Heap} {locs : List Loc} {U : State} (hU : U.heap = H) (h : va_S A s.heap H locs) : va_F A s U := h.F hU
theorem pvRecv_ex {lim : Nat → Prop} {ci : Nat} {as : List pvV} (h : pvRecv lim ci as) : ∃ (id : Nat) (t : List pvV), as = vR id :: t ∧ pvSh id = .inl ci ∧ lim id := by
  unfold pvRecv at h
  split at h
  · exact ⟨_, _, rfl, h.1, h.2⟩
  · exact h.elim
set_option maxHeartbeats 4000000 in
theorem pvCall_ok {p : Program} {l : Launch} {e : Env} {R : Room} {s : State} {m : MethodId} {args : Array Value} {below : List Frame} {meth : Method} {c : Code} {Qm : State → Prop}
    {own : String} {cc : ByteArray} {nL : Nat} {Tb : List Jvm.Cond} {Ca : pvCa} {lim : Nat → Prop} {L : List Nat} {sx : pvSx} {c0 s0 Gm : Nat} {ad : Nat → Nat} {D : va_G} {cI cJ cD : ClassId} {A : Nat → Prop}
    (M : pvMc own cc nL Tb p s m args meth c) (hTb : ∀ w ∈ Tb, goodWord w = true) (hCa : pvCaOk l R own Tb (pvLm L) (pvScx sx) Ca) (hW : pvWc D cI cJ cD sx A s) (hlK : ∀ id, lim id → id ≠ 60 → id ∈ L) (hL0 : pvWl L) (hsx : ad 60 = sx.1) (hR : c0 + Gm ≤ R.cells ∧ s0 + 6 * Gm ≤ R.slots)
    {ix pc g : Nat} {sta : Bool} {st : List pvV} {z : pvM} {kx : Nat → pvM → Nat → Prop} {kk : List pvV → pvM → Nat → Prop} (h : pvCall lim Gm (Ca ix) sta st z g kx kk)
    (hd : decode cc pc = .ok (if sta then .invokestatic ix else .invokevirtual ix, 3)) (hS : pvOkS st) (hz : pvRng z) {ls : pvL} {arr : Array Slot} (hl : pvLh ad ls arr nL)
    {H : Heap} {locs : List Loc} (hP : va_P D vwCl (pvWs ad cI cJ cD L z) H) (hD : va_D A (pvWs ad cI cJ cD L z)) (hSS : va_S A s.heap H locs)
    (Kk : ∀ st' z' g', kk st' z' g' → pvOkS st' → pvRng z' → ∀ H' locs', va_P D vwCl (pvWs ad cI cJ cD L z') H' → va_S A s.heap H' locs' → W p l e R s m args below meth c H' locs' (c0 + g') (s0 + 6 * g') Qm (F0 m (pc + 3) arr (st'.map (pvRe ad))))
    (Kx : ∀ k z' g', kx k z' g' → pvRng z' → ∀ (H' : Heap) (locs' : List Loc) (q : Addr) (ce : Cell) (rest : List Value), va_P D vwCl (pvWs ad cI cJ cD L z') H' → va_S A s.heap H' locs' → H'[q]? = some ce → ce.vm = .none → s.vm.findClass (pvXn k) = some ce.cls → vx_W p l e R s m args below meth c H' locs' (c0 + g' + 1) (s0 + 6 * g' + 6) Qm (F0 m pc arr rest) q) :
    W p l e R s m args below meth c H locs (c0 + g) (s0 + 6 * g) Qm (F0 m pc arr (st.map (pvRe ad))) := by
  obtain ⟨hx, hb, hml, hown, hts, hlocks⟩ := M
  unfold pvCall at h
  split at h
  · exact h.elim
  · rename_i n b ci co C hCx
    obtain ⟨rfl, hg, h⟩ := h
    split at h
    · exact h.elim
    · rename_i as rest hpop
      obtain ⟨hcs, hrec, hC⟩ := h
      obtain ⟨ll, hlen, has, hst⟩ := pvPop_eq hpop
      rw [List.append_nil] at has
      subst has
      subst hst
      have hOkAs : pvOkS as := fun v hv => hS v (List.mem_append_left _ (List.mem_reverse.mpr hv))
      have hOkR : pvOkS rest := fun v hv => hS v (List.mem_append_right _ hv)
      obtain ⟨y, bytes, maxL, ret, rm, r3, r4, r5, r6, hk⟩ := hCa ix _ _ _ _ _ hCx
      have hA : ∀ q, q < H.size → A q → A q := fun _ _ h => h
      have hPc : ∀ U : State, U.heap = H → s.WarmedH U.vm → va_Pc (as.map (pvRe ad)) (pvPw ad D cI cJ cD sx L A z) (as.map (pvRe ad)).toArray U := fun U hU hWU => ⟨rfl, pvWc_move hW hSS hU hWU, by rw [hU]; exact hP, hD⟩
      have hroom : c0 + g + 1 ≤ R.cells ∧ s0 + 6 * g + 6 ≤ R.slots := ⟨by omega, by omega⟩
      have hroomG : c0 + g + max 1 co ≤ R.cells ∧ s0 + 6 * g + 6 * max 1 co ≤ R.slots := ⟨by omega, by omega⟩
      have hstk : (rest.map (pvRe ad)).map (fun v => v.category) = (rest.map (pvRe ad)).map (fun v => v.category) := rfl
      have hW8 : 2 * (F0 m pc arr ((as.reverse ++ rest).map (pvRe ad))).monitorRoom + ((rest.map (pvRe ad)).map fun v => v.category).sum ≤ 8 := lv_room (by rw [pvCs_sum]; exact hcs)
      have hrev : (as.reverse ++ rest).map (pvRe ad) = (as.map (pvRe ad)).reverse ++ rest.map (pvRe ad) := by simp
      -- how a run of a callee that returns or throws goes on
      have fin : ∀ (Qa : Array Value), vx_Run p l e R s m args below meth c H locs (c0 + g) (s0 + 6 * g) 1 6 (F0 m pc arr ((as.reverse ++ rest).map (pvRe ad))) (rest.map (pvRe ad)) (pvQc ad D cI cJ cD L A 0 (pvKk (fun v z' => kk (pvPush v rest) z' (g + co)) (fun k z' => kx k z' g)) Qa) (pvXc ad D cI cJ cD L A (pvKk (fun v z' => kk (pvPush v rest) z' (g + co)) (fun k z' => kx k z' g))) A → co = 0 →
          W p l e R s m args below meth c H locs (c0 + g) (s0 + 6 * g) Qm (F0 m pc arr ((as.reverse ++ rest).map (pvRe ad))) := by
        intro Qa hr hco
        subst hco
        intro T hT X
        rcases hr T hT X with ⟨v, st₀, t, T', L, h0, X', hL, e1, e2, ⟨v', z', hv, hok, hrz, hq, hP', hF, hsz⟩, stp⟩ | ⟨q, st₀, t, T', L, E, ce, h0, X', hL, e1, e2, ⟨k, z', hE, hrz, hq, hP', hF⟩, hce, hcv, hcl, stp⟩
        · simp only [Outcome.returned.injEq] at hv
          subst hv
          have hsz' : pvSz T.heap T'.heap := by rw [hT, ← h0, e1]; exact hsz rfl
          have X2 := pv_tight X X' hsz'
          obtain ⟨k1, k2, k3⟩ := vx_keep h0 e1 hSS hA (fun _ h => h) hL hF
          obtain ⟨t2, a1, b1⟩ := Kk _ z' g hq (pvOkS_push hok hOkR) hrz T'.heap (locs ++ L) (by rw [e1]; exact hP') k3 T' rfl X2
          refine ⟨t2, stp t2 ?_, b1⟩
          rw [show (v'.map (pvRe ad)).toList ++ rest.map (pvRe ad) = (pvPush v' rest).map (pvRe ad) from pv_push ad v' rest]
          exact a1
        · obtain ⟨k1, k2, k3⟩ := vx_keep h0 e1 hSS hA (fun _ h => h) hL hF
          subst hE
          obtain ⟨t2, a1, b1⟩ := Kx k z' g hq hrz T'.heap (locs ++ L) q ce (rest.map (pvRe ad)) (by rw [e1]; exact hP') k3 (by rw [e1]; exact hce) hcv hcl T' rfl X'
          exact ⟨t2, stp.trans a1, b1⟩
      -- .. and of one that never throws
      have finN : ∀ (Qa : Array Value), va_Run p l e R s m args below meth c H locs (c0 + g) (s0 + 6 * g) 1 6 (F0 m pc arr ((as.reverse ++ rest).map (pvRe ad))) (rest.map (pvRe ad)) (pvQc ad D cI cJ cD L A 0 (pvKk (fun v z' => kk (pvPush v rest) z' (g + co)) (fun k z' => kx k z' g)) Qa) A → co = 0 →
          W p l e R s m args below meth c H locs (c0 + g) (s0 + 6 * g) Qm (F0 m pc arr ((as.reverse ++ rest).map (pvRe ad))) := by
        intro Qa hr hco
        subst hco
        intro T hT X
        obtain ⟨v, st₀, t, T', L, h0, X', hL, e1, e2, ⟨v', z', hv, hok, hrz, hq, hP', hF, hsz⟩, stp⟩ := hr T hT X
        simp only [Outcome.returned.injEq] at hv
        subst hv
        have hsz' : pvSz T.heap T'.heap := by rw [hT, ← h0, e1]; exact hsz rfl
        have X2 := pv_tight X X' hsz'
        obtain ⟨k1, k2, k3⟩ := vx_keep h0 e1 hSS hA (fun _ h => h) hL hF
        obtain ⟨t2, a1, b1⟩ := Kk _ z' g hq (pvOkS_push hok hOkR) hrz T'.heap (locs ++ L) (by rw [e1]; exact hP') k3 T' rfl X2
        refine ⟨t2, stp t2 ?_, b1⟩
        rw [show (v'.map (pvRe ad)).toList ++ rest.map (pvRe ad) = (pvPush v' rest).map (pvRe ad) from pv_push ad v' rest]
        exact a1
      -- .. and of a method of the law
      have finG : ∀ (Qa : Array Value), va_Run p l e R s m args below meth c H locs (c0 + g) (s0 + 6 * g) (max 1 co) (6 * max 1 co) (F0 m pc arr ((as.reverse ++ rest).map (pvRe ad))) (rest.map (pvRe ad)) (pvQc ad D cI cJ cD L A co (pvKk (fun v z' => kk (pvPush v rest) z' (g + co)) (fun k z' => kx k z' g)) Qa) A →
          W p l e R s m args below meth c H locs (c0 + g) (s0 + 6 * g) Qm (F0 m pc arr ((as.reverse ++ rest).map (pvRe ad))) := by
        intro Qa hr T hT X
        obtain ⟨v, st₀, t, T', L, h0, X', hL, e1, e2, ⟨v', z', hv, hok, hrz, hq, hP', hF, hsz⟩, stp⟩ := hr T hT X
        simp only [Outcome.returned.injEq] at hv
        subst hv
        obtain ⟨k1, k2, k3⟩ := vx_keep h0 e1 hSS hA (fun _ h => h) hL hF
        have X2 : Stand p l e R s m args below meth c T' (locs ++ L) (c0 + (g + co)) (s0 + 6 * (g + co)) := by
          by_cases hco : co = 0
          · subst hco
            exact pv_tight X X' (by rw [hT, ← h0, e1]; exact hsz rfl)
          · have e9 : c0 + (g + co) = c0 + g + max 1 co := by omega
            have e8 : s0 + 6 * (g + co) = s0 + 6 * g + 6 * max 1 co := by omega
            rw [e9, e8]
            exact X'
        obtain ⟨t2, a1, b1⟩ := Kk _ z' (g + co) hq (pvOkS_push hok hOkR) hrz T'.heap (locs ++ L) (by rw [e1]; exact hP') k3 T' rfl X2
        refine ⟨t2, stp t2 ?_, b1⟩
        rw [show (v'.map (pvRe ad)).toList ++ rest.map (pvRe ad) = (pvPush v' rest).map (pvRe ad) from pv_push ad v' rest]
        exact a1
      rcases hk with ⟨rfl, r7, hsta, hpar, ⟨hco, r1, r2, hcw, hM⟩ | ⟨r1, r2, Cx, hCe, ⟨hh, hcw, hM⟩ | ⟨hcw, hM⟩⟩⟩ | ⟨rfl, hco, r1, r2, r7, hcw, hM, hin, hsel, ⟨k, hnk, hpar⟩, T9, N9, hcl9⟩ | ⟨hco, r1, r2, hnest, hcw, hM, hkind⟩
      · refine fin _ (vx_runS (As := as.map (pvRe ad)) (rest := rest.map (pvRe ad)) ⟨hx, hb, hml, hown, hts⟩ (hM ad D cI cJ cD sx L A as z _ hL0 hsx hOkAs hz hC)
          ⟨callB_of n hts (pvGood_c hTb hcw) rfl r1 r2 (hts _ r5) (hts _ r7) ⟨r6.1, r6.2, hpar⟩ ⟨r3, r4⟩, hts _ hsta⟩ ⟨pvPw_blind ad D cI cJ cD sx L A z _, hPc⟩ rfl (by rw [List.length_map, hlen]) hl.1.1 hrev hW8 hd hroom) hco
      · subst hCe
        exact finG _ (vx_runSW (e := e) (below := below) (meth := meth) (locs := locs) (As := as.map (pvRe ad)) (rest := rest.map (pvRe ad)) (g := F0 m pc arr ((as.reverse ++ rest).map (pvRe ad))) ⟨hx, hb, hml, hown, hts⟩ (hM ad D cI cJ cD sx L A as z _ hL0 hsx hOkAs hz hC)
          ⟨⟨r1, r2, r3, r4, pay_in hts (pvGood_c hTb hcw), List.mem_cons_self⟩, hts _ hcw, hts _ r5, r6, fun sig hsig => by rw [hsig] at hpar; exact (Option.some.inj hpar).symm, hts _ r7, hts _ hsta⟩ ⟨pvPw_blind ad D cI cJ cD sx L A z _, hPc⟩ rfl (by rw [List.length_map, hlen]) hl.1.1 hrev hW8 hd hroomG)
      · subst hCe
        exact finG _ (va_runS (As := as.map (pvRe ad)) (rest := rest.map (pvRe ad)) ⟨hx, hb, hml, hown, hts⟩ (hM ad D cI cJ cD sx L A as z _ hL0 hsx hOkAs hz hC)
          ⟨callB_of n hts (pvGood_c hTb hcw) rfl r1 r2 (hts _ r5) (hts _ r7) ⟨r6.1, r6.2, hpar⟩ ⟨r3, r4⟩, hts _ hsta⟩ ⟨pvPw_blind ad D cI cJ cD sx L A z _, hPc⟩ rfl (by rw [List.length_map, hlen]) hl.1.1 hrev hW8 hd hroomG)
      · obtain ⟨id, t9, rfl, hsh, hidl⟩ := pvRecv_ex (hrec rfl)
        have hid : id ∈ L := hlK id hidl (by rintro rfl; cases hsh)
        obtain ⟨-, hK9⟩ := (⟨trivial, hW.1⟩ : True ∧ va_K D vwCl (pvTy cI cJ cD) s)
        refine fin _ (vx_runV (b := ad id) (As := t9.map (pvRe ad)) (rest := rest.map (pvRe ad)) (n := k) (C := y.cls) ⟨hx, hb, hml, hown, hts⟩ (hM ad D cI cJ cD sx L A _ z _ hL0 hsx hOkAs hz hC)
          ⟨callB_of k hts (pvGood_c hTb hcw) rfl r1 r2 (hts _ r5) (hts _ r7) ⟨r6.1, r6.2, hpar⟩ ⟨r3, r4⟩, hts _ hin, hts _ hsel⟩
          ⟨pvPw_blind ad D cI cJ cD sx L A z _, va_recv hK9 hP hcl9 (by rw [pvWs_get hid, pvE_o hsh]), hPc⟩ rfl (by rw [List.length_map]; simp only [List.length_cons] at hlen; omega) hl.1.1 (by rw [hrev]; simp [pvRe]) hW8 hd hroom) hco
      · have hnw : va_Nw (.methodLinkNest own ix y "EventClockWorkbench") s := hW.2.2.2.2.2.2.2.1 _ hnest
        rcases hkind with ⟨rfl, hsta, hpar⟩ | ⟨rfl, hin, hsel, ⟨k, hnk, hpar⟩, T9, N9, hcl9⟩
        · exact finN _ (va_runSN (As := as.map (pvRe ad)) (rest := rest.map (pvRe ad)) ⟨hx, hb, hml, hown, hts⟩ (hM ad D cI cJ cD sx L A as z _ hL0 hsx hOkAs hz hC)
            ⟨va_cnB n hts (pvGood_c hTb hcw) rfl r1 r2 hnw (hts _ r5) ⟨r6.1, r6.2, hpar⟩ ⟨r3, r4⟩, hts _ hsta, trivial⟩ ⟨pvPw_blind ad D cI cJ cD sx L A z _, hPc⟩ rfl (by rw [List.length_map, hlen]) hl.1.1 hrev hW8 hd hroom) hco
        · obtain ⟨id, t9, rfl, hsh, hidl⟩ := pvRecv_ex (hrec rfl)
          have hid : id ∈ L := hlK id hidl (by rintro rfl; cases hsh)
          exact finN _ (va_runVN (b := ad id) (As := t9.map (pvRe ad)) (rest := rest.map (pvRe ad)) (C := y.cls) ⟨hx, hb, hml, hown, hts⟩ (hM ad D cI cJ cD sx L A _ z _ hL0 hsx hOkAs hz hC)
            ⟨va_cnB k hts (pvGood_c hTb hcw) rfl r1 r2 hnw (hts _ r5) ⟨r6.1, r6.2, hpar⟩ ⟨r3, r4⟩, hts _ hin, hts _ hsel⟩
            ⟨pvPw_blind ad D cI cJ cD sx L A z _, va_recv hW.1 hP hcl9 (by rw [pvWs_get hid, pvE_o hsh]), hPc⟩ rfl (by rw [List.length_map]; simp only [List.length_cons] at hlen; omega) hl.1.1 (by rw [hrev]; simp [pvRe]) hW8 hd hroom) hco
