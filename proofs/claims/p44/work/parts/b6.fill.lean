/-! fill, over the machine -/
theorem pnL_fill : pvPn yL_fill = some 5 := by decide +kernel
theorem caL_fill {l : Launch} (hf : l.stackTraces = false) (lm : Nat → Prop) (sc : Nat × (Nat → Int)) : pvCaOk l mL_fill "EventClockWorkbenchLaw" pvTb lm sc (aL_fill lm sc) := by
  refine pvCaOk_i fun ix n b ci co C h => ?_
  unfold aL_fill at h
  split at h
  · cases h; exact pvCe_L (metWL_cell hf) rfl wd_1_0 rfl wd_3_49 wd_3_50 pnL_cell wd_3_51
  · cases h; exact pvCe_L (metWL_draw hf) rfl wd_1_0 rfl wd_3_46 wd_3_47 pnL_draw wd_3_48
  · cases h; exact pvCe_V (k := 4) (T := TX9) (N := 11) (metX9_addTransition hf) rfl wd_1_1 rfl wd_4_107 wd_4_108 wd_4_109 pnX9_addTransition rfl wd_4_110
  · cases h
set_option maxRecDepth 100000 in
theorem chL_fill : ∀ pc, pvChain cL_fill pc (bL_fill pc) := by
  intro pc
  unfold bL_fill
  split <;> first | exact True.intro | exact pvChain_of (by decide +kernel)
set_option maxHeartbeats 1000000 in
/-- a call of constraint -/
theorem tx_con {p : Program} {l : Launch} {e : Env} {R : Room} {s : State} {m : MethodId} {args : Array Value} {below : List Frame} {meth : Method} {c : Code} {H : Heap} {locs : List Loc} {cells slots pc nL : Nat} {ls : Array Slot} {rest : List Value} {Q : State → Prop} {cc : ByteArray} {D : va_G} {cI cJ cD : ClassId} {A : Nat → Prop}
    (M : pvMc "EventClockWorkbenchLaw" cc nL pvTb p s m args meth c) (hK : va_K D vwCl (pvTy cI cJ cD) s) (hTx : pvTx A s) (hA : ∀ q, s.heap.size ≤ q → A q) (hS : va_S A s.heap H locs) (hsz : ls.size = nL) (hR : 8 ≤ R.frames ∧ 263 ≤ R.locals)
    {k0 k1 k2 : Nat} (h0 : k0 < 3) (h1 : k1 < 7) (h2 : k2 < 4) (hdg : decode cc pc = .ok (.invokestatic 72, 3)) (hst : (rest.map fun v => v.category).sum ≤ 8) (hcs : cells + 4 ≤ R.cells ∧ slots + 40 ≤ R.slots)
    (kk : ∀ (a b : Nat) (g : Nat → Int32) (H1 : Heap) (locs1 : List Loc), H.size ≤ a → H.size ≤ b → va_P D vwCl [(a, .inr (9, [.ref b, .int 0, .int 0, .int 0])), (b, .inl (cD, (cxS k0 k1 k2).length, .inl g))] H1 → (∀ j, j < (cxS k0 k1 k2).length → g j = Int32.ofNat (tbX (cxS k0 k1 k2) j)) → va_S A s.heap H1 locs1 → sbFr H H1 → W p l e R s m args below meth c H1 locs1 (cells + 4) (slots + 40) Q (F0 m (pc + 3) ls (.ref a :: rest))) :
    W p l e R s m args below meth c H locs cells slots Q (F0 m pc ls (.int (Int32.ofNat k2) :: .int (Int32.ofNat k1) :: .int (Int32.ofNat k0) :: rest)) := by
  obtain ⟨hx, hb, hml, hown, hts, hlocks⟩ := M
  have hAA : ∀ q, H.size ≤ q → A q := fun q h => hA q (Nat.le_trans hS.1 h)
  have hr := va_runS (As := [.int (Int32.ofNat k0), .int (Int32.ofNat k1), .int (Int32.ofNat k2)]) (rest := rest) (g := F0 m pc ls (.int (Int32.ofNat k2) :: .int (Int32.ofNat k1) :: .int (Int32.ofNat k0) :: rest)) (H := H) (locs := locs) (cells := cells) (slots := slots) (l := l) (e := e) (R := R) (below := below) (meth := meth) ⟨hx, hb, hml, hown, hts⟩ (tL_constraint D cI cJ cD (fun q => H.size ≤ q) k0 k1 k2 h0 h1 h2)
    ⟨callB_of (index := 72) 3 hts (pvGood_c pvTb_g wd_3_210) rfl rfl rfl (hts _ wd_1_0) (hts _ wd_3_208) ⟨by decide, by decide, by decide +kernel⟩ ⟨by show 7 + 1 ≤ _; omega, by show 8 + (4 + 11) + 240 ≤ _; omega⟩, hts _ wd_3_209⟩
    ⟨fun a U g mk ⟨q0, q1, q2, q3⟩ => ⟨q0, va_K.moved (u := U) (U := U.calling g mk a) (Vm.Alike.refl U.vm) q1, q2, q3.blind g mk a⟩, fun U hU hW => ⟨rfl, va_K.moved hW.alike hK, fun q h => by rw [hU] at h; exact h, (hTx.move (U := U) (fun a g1 g2 => by rw [hU]; exact hS.2.1 a g1 g2) hW).narrow hAA⟩⟩ rfl rfl hsz rfl (lv_room hst) hdg ⟨hcs.1, hcs.2⟩
  intro T hT X
  obtain ⟨v, st₀, t, T', L, e0, X', hL, e1, e2, ⟨⟨a, hv, b, g, ha, hb9, hP, hg, hD, hF⟩, hz, hk⟩, st⟩ := hr T hT X
  cases hv
  rw [e0] at hz hk ha hb9 hF
  obtain ⟨t2, a1, b1⟩ := kk a b g T'.heap (locs ++ L) ha hb9 (by rw [e1]; exact hP) hg
    ⟨Nat.le_trans hS.1 (by rw [e1]; exact hz), fun q g1 g2 => by rw [e1, hk q (Nat.lt_of_lt_of_le g1 hS.1) (fun z => g2 (hAA q z))]; exact hS.2.1 q g1 g2, fun q hq => by
      rcases List.mem_append.mp hq with h | h
      · exact hS.2.2 q h
      · exact hAA _ (hL q h)⟩ (by rw [e1]; exact hF) T' rfl X'
  exact ⟨t2, st t2 a1, b1⟩
