/-! first and isTaken, over the machine -/
theorem pnL_first : pvPn yL_first = some 7 := by decide +kernel
theorem caL_first {l : Launch} (hf : l.stackTraces = false) (lm : Nat → Prop) (sc : Nat × (Nat → Int)) : pvCaOk l mL_first "EventClockWorkbenchLaw" pvTb lm sc (aL_first lm sc) := by
  refine pvCaOk_i fun ix n b ci co C h => ?_
  unfold aL_first at h
  split at h
  · cases h; exact pvCe_L (metWL_isOne hf) rfl wd_1_0 rfl wd_5_100 wd_5_101 pnL_isOne wd_5_102
  · cases h
set_option maxRecDepth 100000 in
theorem chL_first : ∀ pc, pvChain cL_first pc (bL_first pc) := by
  intro pc
  unfold bL_first
  split <;> first | exact True.intro | exact pvChain_of (by decide +kernel)
theorem trP_l {lim lim' : Nat → Prop} {z z' : pvM} {t : Nat} {A : Aut} (h : trP lim z t A) (hl : ∀ id, lim id → lim' id) (e : z'.1 t = z.1 t) : trP lim' z' t A := by
  obtain ⟨⟨h1, h2⟩, h3⟩ := h
  exact ⟨⟨hl _ h1, h2⟩, by rw [e]; exact h3⟩
theorem pvLm_in {L : List Nat} {id : Nat} (h : pvLm L id) (h6 : id ≠ 60) : id ∈ L := h.resolve_right h6
set_option maxHeartbeats 4000000 in
theorem metWL_first {l : Launch} (hf : l.stackTraces = false) : pvMetW l yL_first (Cond.code yL_first cL_first 15 (some .int) :: pvTb) mL_first 3 C_L_first := by
  intro ad D cI cJ cD sx L S as z Q hL0 hsx hOk hz hC
  refine Met.ofW (cc := cL_first) (maxL := 15) (ret := some .int) plL rfl ?_
  intro p e s m args below meth c s₁ B hml hv
  obtain ⟨rfl, hWc, hP, hD⟩ := hv
  unfold C_L_first at hC
  split at hC
  · rename_i t ini fin u ini2 fin2 df
    obtain ⟨Au, Bu, ⟨htA, ⟨rfl, rfl⟩, htB, ⟨rfl, rfl⟩, hdf⟩, hQ⟩ := hC
    have hx := B.exec
    have hb := B.bytes
    have hr := B.returns
    have hts0 := atoms_spec (ws := Cond.code yL_first cL_first 15 (some .int) :: pvTb) B.pre
    have hts : ∀ w ∈ pvTb, w.before ([vR t, vI Au.2.1, vI Au.2.2.1, vR u, vI Bu.2.1, vI Bu.2.2.1, vI df].map (pvRe ad)).toArray s = true := fun w hw => hts0 w (List.mem_cons_of_mem _ hw)
    have hown : s.vm.findClass yL_first.cls = some m.cls := findClass_of_methodNamed B.named
    have hlocks := B.notSynchronized
    have M : pvMc yL_first.cls cL_first 15 pvTb p s m ([vR t, vI Au.2.1, vI Au.2.2.1, vR u, vI Bu.2.1, vI Bu.2.2.1, vI df].map (pvRe ad)).toArray meth c := ⟨hx, hb, hml, hown, hts, hlocks⟩
    have hA : ∀ q, s.heap.size ≤ q → S q := hWc.2.1
    have hK := hWc.1
    have hcs : pvCs [vR t, vI Au.2.1, vI Au.2.2.1, vR u, vI Bu.2.1, vI Bu.2.2.1, vI df] ≤ 15 := Nat.le_of_ble_eq_true rfl
    have hl : pvLh ad (pvEn [vR t, vI Au.2.1, vI Au.2.2.1, vR u, vI Bu.2.1, vI Bu.2.2.1, vI df] 15) _ 15 := pvLh_en hcs
    have hok0 : pvOkL (pvEn [vR t, vI Au.2.1, vI Au.2.2.1, vR u, vI Bu.2.1, vI Bu.2.2.1, vI df] 15) := pvEn_ok _ hOk
    rw [lg_entry_eq]
    revert hl
    generalize (lg_sl ([vR t, vI Au.2.1, vI Au.2.2.1, vR u, vI Bu.2.1, vI Bu.2.2.1, vI df].map (pvRe ad)) ++ List.replicate (15 - (lg_sl ([vR t, vI Au.2.1, vI Au.2.2.1, vR u, vI Bu.2.1, vI Bu.2.2.1, vI df].map (pvRe ad))).length) Slot.unset).toArray = arr
    intro hl
    have ht1 : t ∈ L := pvLm_in htA.1.1 htA.1.2.1
    have hu1 : u ∈ L := pvLm_in htB.1.1 htB.1.2.1
    refine lv_iconst (v := 2) hx hb (show decode cL_first 0 = .ok (.iconst 2, 1) from by decide +kernel) (by decide) ?_
    refine tw_new M hK hL0 hP hD va_S.rf hA (x := Int32.ofInt 2) (n := 2) rfl (by decide) (Nat.le_of_ble_eq_true rfl) (Nat.le_of_ble_eq_true rfl) (show decode cL_first 1 = .ok (.newarray .int, 2) from by decide +kernel) (fun ad1 id1 H1 g1 g2 g3 g4 g5 g6 hP1 hD1 hS1 => ?_)
    have nR : ∀ (x : Nat), (∀ i, i ∈ L → i ≠ x) → ∀ k, pvLd [some (vR t), some (vI Au.2.1), some (vI Au.2.2.1), some (vR u), some (vI Bu.2.1), some (vI Bu.2.2.1), some (vI df), none, none, none, none, none, none, none, none] k ≠ some (vR x) := by
      intro x hx9 k hk
      rcases k with _ | _ | _ | _ | _ | _ | _ | _ | _ | _ | _ | _ | _ | _ | _ | k <;> first | (cases hk; done) | skip
      · simp only [pvLd, Option.some.injEq, Sum.inr.injEq, Sum.inl.injEq] at hk; exact hx9 t ht1 hk
      · simp only [pvLd, Option.some.injEq, Sum.inr.injEq, Sum.inl.injEq] at hk; exact hx9 u hu1 hk
    have hl1 := pvLh_ad hl g5 (nR id1 (fun i hi e => g2 (e ▸ hi)))
    refine lv_astore hx hb (show decode cL_first 3 = .ok (.astore 7, 2) from by decide +kernel) hl1.1 (by decide) rfl (fun arr hl' => ?_)
    have hl2 := pvLh_s1 (v := vR id1) hl1 hl'
    refine lv_iconst (v := 2) hx hb (show decode cL_first 5 = .ok (.iconst 2, 1) from by decide +kernel) (by decide) ?_
    refine tw_new M hK g6 hP1 hD1 hS1 hA (x := Int32.ofInt 2) (n := 2) rfl (by decide) (Nat.le_of_ble_eq_true rfl) (Nat.le_of_ble_eq_true rfl) (show decode cL_first 6 = .ok (.newarray .int, 2) from by decide +kernel) (fun ad2 id2 H2 k1 k2 k3 k4 k5 k6 hP2 hD2 hS2 => ?_)
    have hl3 := pvLh_ad hl2 k5 (fun k hk => by
      rcases pvS1_ld _ _ _ _ _ hk with ⟨-, h9⟩ | ⟨-, h9, -⟩
      · cases h9; exact k2 (List.mem_append_right _ List.mem_cons_self)
      · exact nR id2 (fun i hi e => k2 (List.mem_append_left _ (e ▸ hi))) k h9)
    refine lv_astore hx hb (show decode cL_first 8 = .ok (.astore 8, 2) from by decide +kernel) hl3.1 (by decide) rfl (fun arr hl' => ?_)
    have hl4 := pvLh_s1 (v := vR id2) hl3 hl'
    have hne : id1 ≠ id2 := fun e => k2 (List.mem_append_right _ (e ▸ List.mem_cons_self))
    have i1 : ∀ i, i ∈ L → i ≠ id1 ∧ i ≠ id2 := fun i hi => ⟨fun e => g2 (e ▸ hi), fun e => k2 (List.mem_append_left _ (e ▸ hi))⟩
    have hlm : ∀ id, pvLm L id → pvLm (L ++ [id1] ++ [id2]) id := fun id h => pvLm_new.mpr (Or.inl (pvLm_new.mpr (Or.inl h)))
    have h1m : pvLm (L ++ [id1] ++ [id2]) id1 := pvLm_new.mpr (Or.inl (pvLm_new.mpr (Or.inr rfl)))
    have h2m : pvLm (L ++ [id1] ++ [id2]) id2 := pvLm_new.mpr (Or.inr rfl)
    have zL : ∀ i, i ≠ id1 → i ≠ id2 → (pvZr (pvZr z id1) id2).1 i = z.1 i := fun i h1 h2 => (pvZr_ne _ h2).trans (pvZr_ne _ h1)
    have z1 : (pvZr (pvZr z id1) id2).1 id1 = fun _ => 0 := (pvZr_ne _ hne).trans (pvZr_at _ _)
    have z2 : (pvZr (pvZr z id1) id2).1 id2 = fun _ => 0 := pvZr_at _ _
    have hrt := pvRt_L (l := l) (e := e) (rm := mL_first) (m := m) (args := ([vR t, vI Au.2.1, vI Au.2.2.1, vR u, vI Bu.2.1, vI Bu.2.2.1, vI df].map (pvRe ad)).toArray) (s := s) (below := below) (ret := some .int) (Q := Q) (ad' := ad2) (ad := ad) (L := L) (cI := cI) (cJ := cJ) (cD := cD) (L' := L ++ [id1] ++ [id2]) (A := S) (D := D) (co := 3) hx hb hr hlocks (Or.inl rfl) (fun z9 H9 h9 => pvWs_drop g1 g2 g5 (pvWs_drop k1 k2 k5 h9)) (by decide)
    have hc : pvCloG (pvLm (L ++ [id1] ++ [id2])) (pvScx sx) fL (aL_first (pvLm (L ++ [id1] ++ [id2])) (pvScx sx)) kL 3 (pvRtG 3 (some .int) Q) bL_first uL_first (pvSW p l e mL_first s m ([vR t, vI Au.2.1, vI Au.2.2.1, vR u, vI Bu.2.1, vI Bu.2.2.1, vI df].map (pvRe ad)).toArray below meth c (MQ below (pvQc ad D cI cJ cD L S 3 Q) ([vR t, vI Au.2.1, vI Au.2.2.1, vR u, vI Bu.2.1, vI Bu.2.2.1, vI df].map (pvRe ad)).toArray s (max 1 3) (6 * max 1 3) S) 15 (L ++ [id1] ++ [id2]) 0 0 ad2 D cI cJ cD S) := by
      intro n pc ls st z' g h hL9 hS9 hz9 H locs arr hP' hSS hl9
      exact pvSeg M pvTb_g coL foL pvCl (caL_first hf _ _) hWc k6 (by rw [k5 60 (by omega), g5 60 (by omega)]; exact hsx) ⟨Nat.le_refl _, Nat.le_refl _⟩ (fun z => pvD_any hD2) chL_first (fun _ _ _ _ _ h => h) hrt n pc ls st z' g (h hL9 hS9 hz9) hL9 hS9 hz9 H locs arr hP' hSS hl9
    have hgo := okL_first2 hc (t := t) (u := u) (dl := id1) (lt := id2) (df := df) (z := pvZr (pvZr z id1) id2) (A := Au) (B := Bu)
      (trP_l htA hlm (zL t (i1 t ht1).1 (i1 t ht1).2)) (trP_l htB hlm (zL u (i1 u hu1).1 (i1 u hu1).2)) hdf ⟨h1m, by omega, g4⟩ ⟨h2m, by omega, k4⟩ ⟨hne, (i1 t ht1).1, (i1 t ht1).2, (i1 u hu1).1, (i1 u hu1).2⟩
      ⟨frF_0, by rw [z1, z2]; exact ⟨by decide, fun k hk => ⟨⟨Int.le_refl _, by show (0 : Int) ≤ 4; decide⟩, Int.le_refl _, by show (0 : Int) ≤ 2; decide⟩⟩⟩
      (fun own z' h1 h2 => hQ own z' (fun id hid => (h1.1.1 id (by
        rcases hid with h9 | h9
        · simp [i1 id h9]
        · simp only [List.mem_cons, List.not_mem_nil, or_false, not_or]; omega)).trans (zL id (by rcases hid with h9 | h9 <;> first | exact (i1 id h9).1 | omega) (by rcases hid with h9 | h9 <;> first | exact (i1 id h9).2 | omega))) (Prod.ext (funext fun id => h1.1.2.1 id List.not_mem_nil) h1.1.2.2) h2)
    refine W.widen (k := 0 + 2) (n := 0 + 6 * 2) (by decide) (by decide) ?_
    exact hgo (pvOkL_s1 (k := 8) (v := vR id2) (pvOkL_s1 (k := 7) (v := vR id1) hok0 trivial) trivial) (fun v hv => absurd hv List.not_mem_nil) (pvZr_rng (pvZr_rng hz _) _) H2 _ arr hP2 hS2 hl4
  · exact hC.elim
theorem pnL_isTaken : pvPn yL_isTaken = some 9 := by decide +kernel
theorem caL_isTaken {l : Launch} (hf : l.stackTraces = false) (lm : Nat → Prop) (sc : Nat × (Nat → Int)) : pvCaOk l mL_isTaken "EventClockWorkbenchLaw" pvTb lm sc (aL_isTaken lm sc) := by
  refine pvCaOk_i fun ix n b ci co C h => ?_
  unfold aL_isTaken at h
  split at h
  · cases h; exact pvCe_L (metWL_isOne hf) rfl wd_1_0 rfl wd_5_100 wd_5_101 pnL_isOne wd_5_102
  · cases h; exact pvCe_V (k := 1) (T := TX9) (N := 11) (metX9_isIncluded hf) rfl wd_1_1 rfl wd_4_222 wd_4_223 wd_4_224 pnX9_isIncluded rfl wd_4_225
  · cases h; exact pvCe_V (k := 1) (T := TX9) (N := 11) (metX9_isEmpty hf) rfl wd_1_1 rfl wd_5_28 wd_5_29 wd_5_30 pnX9_isEmpty rfl wd_5_31
  · cases h; exact pvCe_W (metWL_take hf) rfl wd_1_0 rfl wd_5_32 wd_5_33 pnL_take wd_5_34
  · cases h; exact pvCe_L (metWL_first hf) rfl wd_1_0 rfl wd_5_97 wd_5_98 pnL_first wd_5_99
  · cases h; exact pvCe_V (k := 0) (T := TX9) (N := 11) (metX9_wordLength hf) rfl wd_1_1 rfl wd_5_103 wd_5_104 wd_5_105 pnX9_wordLength rfl wd_5_106
  · cases h; exact pvCe_V (k := 2) (T := TX9) (N := 11) (metX9_event hf) rfl wd_1_1 rfl wd_5_107 wd_5_108 wd_5_109 pnX9_event rfl wd_5_110
  · cases h; exact pvCe_V (k := 3) (T := TX9) (N := 11) (metX9_acceptedWords hf) rfl wd_1_1 rfl wd_3_12 wd_3_13 wd_3_14 pnX9_acceptedWords rfl wd_3_15
  · cases h; exact pvCe_V (k := 1) (T := TX9) (N := 11) (metX9_accepts hf) rfl wd_1_1 rfl wd_2_190 wd_2_191 wd_2_192 pnX9_accepts rfl wd_2_193
  · cases h
set_option maxRecDepth 100000 in
theorem chL_isTaken : ∀ pc, pvChain cL_isTaken pc (bL_isTaken pc) := by
  intro pc
  unfold bL_isTaken
  split <;> first | exact True.intro | exact pvChain_of (by decide +kernel)
set_option maxHeartbeats 4000000 in
theorem metWL_isTaken {l : Launch} (hf : l.stackTraces = false) : pvMetW l yL_isTaken (Cond.code yL_isTaken cL_isTaken 15 (some .boolean) :: pvTb) mL_isTaken 10 C_L_isTaken := by
  intro ad D cI cJ cD sx L S as z Q hL0 hsx hOk hz hC
  refine Met.ofW (cc := cL_isTaken) (maxL := 15) (ret := some .boolean) plL rfl ?_
  intro p e s m args below meth c s₁ B hml hv
  obtain ⟨rfl, hWc, hP, hD⟩ := hv
  unfold C_L_isTaken at hC
  split at hC
  · rename_i id0 s9 t ini fin u ini2 fin2 df
    obtain ⟨rfl, ⟨hl39, hs9, hdf, hls, hAu, hBu⟩, hQ⟩ := hC
    have hx := B.exec
    have hb := B.bytes
    have hr := B.returns
    have hts0 := atoms_spec (ws := Cond.code yL_isTaken cL_isTaken 15 (some .boolean) :: pvTb) B.pre
    have hts : ∀ w ∈ pvTb, w.before ([vR 0, vI s9, vR t, vI ini, vI fin, vR u, vI ini2, vI fin2, vI df].map (pvRe ad)).toArray s = true := fun w hw => hts0 w (List.mem_cons_of_mem _ hw)
    have hown : s.vm.findClass yL_isTaken.cls = some m.cls := findClass_of_methodNamed B.named
    have hlocks := B.notSynchronized
    have M : pvMc yL_isTaken.cls cL_isTaken 15 pvTb p s m ([vR 0, vI s9, vR t, vI ini, vI fin, vR u, vI ini2, vI fin2, vI df].map (pvRe ad)).toArray meth c := ⟨hx, hb, hml, hown, hts, hlocks⟩
    have hA : ∀ q, s.heap.size ≤ q → S q := hWc.2.1
    have hK := hWc.1
    have hcs : pvCs [vR 0, vI s9, vR t, vI ini, vI fin, vR u, vI ini2, vI fin2, vI df] ≤ 15 := Nat.le_of_ble_eq_true rfl
    have hl : pvLh ad (pvEn [vR 0, vI s9, vR t, vI ini, vI fin, vR u, vI ini2, vI fin2, vI df] 15) _ 15 := pvLh_en hcs
    have hok0 : pvOkL (pvEn [vR 0, vI s9, vR t, vI ini, vI fin, vR u, vI ini2, vI fin2, vI df] 15) := pvEn_ok _ hOk
    rw [lg_entry_eq]
    revert hl
    generalize (lg_sl ([vR 0, vI s9, vR t, vI ini, vI fin, vR u, vI ini2, vI fin2, vI df].map (pvRe ad)) ++ List.replicate (15 - (lg_sl ([vR 0, vI s9, vR t, vI ini, vI fin, vR u, vI ini2, vI fin2, vI df].map (pvRe ad))).length) Slot.unset).toArray = arr
    intro hl
    have ht1 : t ∈ L := pvLm_in hAu.1.1.1 hAu.1.1.2.1
    have hu1 : u ∈ L := pvLm_in hBu.1.1.1 hBu.1.1.2.1
    have ht64 := hAu.1.1.2.2.1
    have hu64 := hBu.1.1.2.2.1
    have hrt0 := pvRt_L (l := l) (e := e) (rm := mL_isTaken) (m := m) (args := ([vR 0, vI s9, vR t, vI ini, vI fin, vR u, vI ini2, vI fin2, vI df].map (pvRe ad)).toArray) (s := s) (below := below) (ret := some .boolean) (Q := Q) (ad' := ad) (L' := L) (A := S) (D := D) (co := 10) (cI := cI) (cJ := cJ) (cD := cD) (L := L) (ad := ad) hx hb hr hlocks (Or.inr rfl) (fun z9 H9 h9 => h9) (by decide)
    have hc0 : pvCloG (pvLm L) (pvScx sx) fL (aL_isTaken (pvLm L) (pvScx sx)) kL 10 (pvRtG 10 (some .boolean) Q) bL_isTaken uL_isTaken (pvSW p l e mL_isTaken s m ([vR 0, vI s9, vR t, vI ini, vI fin, vR u, vI ini2, vI fin2, vI df].map (pvRe ad)).toArray below meth c (MQ below (pvQc ad D cI cJ cD L S 10 Q) ([vR 0, vI s9, vR t, vI ini, vI fin, vR u, vI ini2, vI fin2, vI df].map (pvRe ad)).toArray s (max 1 10) (6 * max 1 10) S) 15 L 0 0 ad D cI cJ cD S) := by
      intro n pc ls st z' g h hL9 hS9 hz9 H locs arr hP' hSS hl9
      exact pvSeg M pvTb_g coL foL pvCl (caL_isTaken hf _ _) hWc hL0 hsx ⟨Nat.le_refl _, Nat.le_refl _⟩ (fun z => pvD_any hD) chL_isTaken (fun _ _ _ _ _ h => h) hrt0 n pc ls st z' g (h hL9 hS9 hz9) hL9 hS9 hz9 H locs arr hP' hSS hl9
    refine okL_isTaken1 hc0 hl39 hs9 hdf hls hAu hBu hQ (fun z' own F htk => ?_) hok0 (fun v hv => absurd hv List.not_mem_nil) hz s.heap [] _ hP va_S.rf hl
    obtain ⟨t1, t2, t3, t4, t5, t6, t7⟩ := htk
    intro hL9 hS9 hz9 H locs arr hP' hSS hl9
    refine lv_bipush (v := 10) hx hb (show decode cL_isTaken 121 = .ok (.bipush 10, 2) from by decide +kernel) (by decide) ?_
    refine tw_new M hK hL0 hP' (pvD_any hD) hSS hA (x := Int32.ofInt 10) (n := 10) rfl (by decide) (Nat.le_of_ble_eq_true rfl) (Nat.le_of_ble_eq_true rfl) (show decode cL_isTaken 123 = .ok (.newarray .int, 2) from by decide +kernel) (fun ad1 id1 H1 g1 g2 g3 g4 g5 g6 hP1 hD1 hS1 => ?_)
    have nR : ∀ (x : Nat), (∀ i, i ∈ L → i ≠ x) → x ≠ 0 → ∀ k, pvLd [some (vR 0), some (vI s9), some (vR t), some (vI ini), some (vI fin), some (vR u), some (vI ini2), some (vI fin2), some (vI df), none, some (vI (F : Int)), some (vI own), none, none, none] k ≠ some (vR x) := by
      intro x hx9 hx0 k hk
      rcases k with _ | _ | _ | _ | _ | _ | _ | _ | _ | _ | _ | _ | _ | _ | _ | k <;> first | (cases hk; done) | skip
      · simp only [pvLd, Option.some.injEq, Sum.inr.injEq, Sum.inl.injEq] at hk; exact hx0 hk.symm
      · simp only [pvLd, Option.some.injEq, Sum.inr.injEq, Sum.inl.injEq] at hk; exact hx9 t ht1 hk
      · simp only [pvLd, Option.some.injEq, Sum.inr.injEq, Sum.inl.injEq] at hk; exact hx9 u hu1 hk
    have hl1 := pvLh_ad hl9 g5 (nR id1 (fun i hi e => g2 (e ▸ hi)) (by omega))
    refine lv_astore hx hb (show decode cL_isTaken 125 = .ok (.astore 12, 2) from by decide +kernel) hl1.1 (by decide) rfl (fun arr hl' => ?_)
    have hl2 := pvLh_s1 (v := vR id1) hl1 hl'
    refine lv_bipush (v := 10) hx hb (show decode cL_isTaken 127 = .ok (.bipush 10, 2) from by decide +kernel) (by decide) ?_
    refine tw_new M hK g6 hP1 hD1 hS1 hA (x := Int32.ofInt 10) (n := 10) rfl (by decide) (Nat.le_of_ble_eq_true rfl) (Nat.le_of_ble_eq_true rfl) (show decode cL_isTaken 129 = .ok (.newarray .int, 2) from by decide +kernel) (fun ad2 id2 H2 k1 k2 k3 k4 k5 k6 hP2 hD2 hS2 => ?_)
    have hl3 := pvLh_ad hl2 k5 (fun k hk => by
      rcases pvS1_ld _ _ _ _ _ hk with ⟨-, h9⟩ | ⟨-, h9, -⟩
      · cases h9; exact k2 (List.mem_append_right _ List.mem_cons_self)
      · exact nR id2 (fun i hi e => k2 (List.mem_append_left _ (e ▸ hi))) (by omega) k h9)
    refine lv_astore hx hb (show decode cL_isTaken 131 = .ok (.astore 13, 2) from by decide +kernel) hl3.1 (by decide) rfl (fun arr hl' => ?_)
    have hl4 := pvLh_s1 (v := vR id2) hl3 hl'
    have hne : id1 ≠ id2 := fun e => k2 (List.mem_append_right _ (e ▸ List.mem_cons_self))
    have i1 : ∀ i, i ∈ L → i ≠ id1 ∧ i ≠ id2 := fun i hi => ⟨fun e => g2 (e ▸ hi), fun e => k2 (List.mem_append_left _ (e ▸ hi))⟩
    have hlm : ∀ id, pvLm L id → pvLm (L ++ [id1] ++ [id2]) id := fun id h => pvLm_new.mpr (Or.inl (pvLm_new.mpr (Or.inl h)))
    have h1m : pvLm (L ++ [id1] ++ [id2]) id1 := pvLm_new.mpr (Or.inl (pvLm_new.mpr (Or.inr rfl)))
    have h2m : pvLm (L ++ [id1] ++ [id2]) id2 := pvLm_new.mpr (Or.inr rfl)
    have zL : ∀ i, i ≠ id1 → i ≠ id2 → (pvZr (pvZr z' id1) id2).1 i = z'.1 i := fun i h1 h2 => (pvZr_ne _ h2).trans (pvZr_ne _ h1)
    have z1 : (pvZr (pvZr z' id1) id2).1 id1 = fun _ => 0 := (pvZr_ne _ hne).trans (pvZr_at _ _)
    have z2 : (pvZr (pvZr z' id1) id2).1 id2 = fun _ => 0 := pvZr_at _ _
    have z39 : ∀ i, i < 64 → (pvZr (pvZr z' id1) id2).1 i = z'.1 i := fun i h => zL i (by omega) (by omega)
    have hrt := pvRt_L (l := l) (e := e) (rm := mL_isTaken) (m := m) (args := ([vR 0, vI s9, vR t, vI ini, vI fin, vR u, vI ini2, vI fin2, vI df].map (pvRe ad)).toArray) (s := s) (below := below) (ret := some .boolean) (Q := Q) (ad' := ad2) (ad := ad) (L := L) (cI := cI) (cJ := cJ) (cD := cD) (L' := L ++ [id1] ++ [id2]) (A := S) (D := D) (co := 10) hx hb hr hlocks (Or.inr rfl) (fun z9 H9 h9 => pvWs_drop g1 g2 g5 (pvWs_drop k1 k2 k5 h9)) (by decide)
    have hc : pvCloG (pvLm (L ++ [id1] ++ [id2])) (pvScx sx) fL (aL_isTaken (pvLm (L ++ [id1] ++ [id2])) (pvScx sx)) kL 10 (pvRtG 10 (some .boolean) Q) bL_isTaken uL_isTaken (pvSW p l e mL_isTaken s m ([vR 0, vI s9, vR t, vI ini, vI fin, vR u, vI ini2, vI fin2, vI df].map (pvRe ad)).toArray below meth c (MQ below (pvQc ad D cI cJ cD L S 10 Q) ([vR 0, vI s9, vR t, vI ini, vI fin, vR u, vI ini2, vI fin2, vI df].map (pvRe ad)).toArray s (max 1 10) (6 * max 1 10) S) 15 (L ++ [id1] ++ [id2]) 0 0 ad2 D cI cJ cD S) := by
      intro n pc ls st z' g h hL9 hS9 hz9 H locs arr hP' hSS hl9
      exact pvSeg M pvTb_g coL foL pvCl (caL_isTaken hf _ _) hWc k6 (by rw [k5 60 (by omega), g5 60 (by omega)]; exact hsx) ⟨Nat.le_refl _, Nat.le_refl _⟩ (fun z => pvD_any hD2) chL_isTaken (fun _ _ _ _ _ h => h) hrt n pc ls st z' g (h hL9 hS9 hz9) hL9 hS9 hz9 H locs arr hP' hSS hl9
    have er : ∀ q : Int, (pvZr (pvZr z' id1) id2).1 (rwC q) = z.1 (rwC q) := fun q => (z39 _ (by have := rw_l (s := q); omega)).trans (frL_rw hl39 t2 q)
    have et : (pvZr (pvZr z' id1) id2).1 t = z.1 t := (zL t (i1 t ht1).1 (i1 t ht1).2).trans (t2 t hAu.1.1.1 (Or.inr ht64))
    have eu : (pvZr (pvZr z' id1) id2).1 u = z.1 u := (zL u (i1 u hu1).1 (i1 u hu1).2).trans (t2 u hBu.1.1.1 (Or.inr hu64))
    have hgo := okL_isTaken2 hc (s := s9) (df := df) (ini := ini) (fin := fin) (ini2 := ini2) (fin2 := fin2) (own := own) (t := t) (u := u) (dl := id1) (lt := id2) (F := F) (z := pvZr (pvZr z' id1) id2) (A := autC (z.1 (rwC s9))) (B := autC (z.1 (rwC (1 - s9))))
      (fun id h => hlm id (hl39 id h)) hs9 hdf (lsP_c t1 (fun id h => z39 id (by omega))) (by rw [er]) (by rw [er]) (trP_l hAu.1 hlm et) hAu.2 (trP_l hBu.1 hlm eu) hBu.2 t3 t4 (by rw [z39 20 (by decide)]; exact t5) (by rw [z39 21 (by decide), z39 22 (by decide)]; exact t6) t7
      ⟨h1m, by omega, g1, g4⟩ ⟨h2m, by omega, k1, k4⟩ ⟨hne, (i1 t ht1).1, (i1 t ht1).2, (i1 u hu1).1, (i1 u hu1).2⟩ z1 z2
      (fun z3 h1 h2 => hQ z3 h1 (fun id hid h9 => by
        have hi : id ∈ L := pvLm_in hid (by rcases h9 with h9 | h9 <;> omega)
        have := i1 id hi
        rw [h2 id this.1 this.2 h9, zL id this.1 this.2]
        exact t2 id hid h9))
    refine W.widen (k := 0 + 8) (n := 0 + 6 * 8) (by decide) (by decide) ?_
    exact hgo (pvOkL_s1 (k := 13) (v := vR id2) (pvOkL_s1 (k := 12) (v := vR id1) hL9 trivial) trivial) (fun v hv => absurd hv List.not_mem_nil) (pvZr_rng (pvZr_rng hz9 _) _) H2 _ arr hP2 hS2 hl4
  · exact hC.elim
