/-! the law over the machine -/
theorem va_P_l {D : va_G} {cl : List vw_C} {w1 w2 : va_W} {H : Heap} (h : va_P D cl (w1 ++ w2) H) : va_P D cl w1 H := fun k q hk => h k q (by rw [List.getElem?_append_left (List.getElem?_eq_some_iff.mp hk).1]; exact hk)
theorem va_P_r {D : va_G} {cl : List vw_C} {w1 w2 : va_W} {H : Heap} (h : va_P D cl (w1 ++ w2) H) : va_P D cl w2 H := fun k q hk => h (w1.length + k) q (by rw [List.getElem?_append_right (by omega), Nat.add_sub_cancel_left]; exact hk)
theorem caL_law {l : Launch} (hf : l.stackTraces = false) : pvCaOk l room_1 "EventClockWorkbenchLaw" pvTb 61 aL_law := by
  refine pvCaOk_i fun ix n b ci co C h => ?_
  unfold aL_law at h
  split at h
  · cases h; exact pvCe_W (metWL_appendCharacter hf) rfl wd_1_0 rfl wd_2_28 wd_2_29 pnL_appendCharacter wd_2_30
  · cases h; exact pvCe_V (k := 1) (T := TX10) (N := 31) (metX10_appendCharacter hf) rfl wd_1_10 rfl wd_6_23 wd_6_24 wd_6_25 pnX10_appendCharacter rfl wd_6_26
  · cases h; exact pvCe_V (k := 0) (T := TX10) (N := 31) (metX10_thrown hf) rfl wd_1_10 rfl wd_5_239 wd_6_0 wd_6_1 pnX10_thrown rfl wd_6_2
  · cases h; exact pvCe_V (k := 0) (T := TX9) (N := 11) (metX9_faultPosition hf) rfl wd_1_1 rfl wd_1_234 wd_1_235 wd_1_236 pnX9_faultPosition rfl wd_1_237
  · cases h; exact pvCe_V (k := 0) (T := TX10) (N := 31) (metX10_faultPosition hf) rfl wd_1_10 rfl wd_6_30 wd_6_31 wd_6_32 pnX10_faultPosition rfl wd_6_33
  · cases h; exact pvCe_W (metWL_addTransition hf) rfl wd_1_0 rfl wd_2_134 wd_2_135 pnL_addTransition wd_2_136
  · cases h; exact pvCe_V (k := 4) (T := TX10) (N := 31) (metX10_addTransition hf) rfl wd_1_10 rfl wd_6_34 wd_6_35 wd_6_36 pnX10_addTransition rfl wd_6_37
  · cases h; exact pvCe_W (metWL_removeTransition hf) rfl wd_1_0 rfl wd_3_0 wd_3_1 pnL_removeTransition wd_3_2
  · cases h; exact pvCe_V (k := 2) (T := TX10) (N := 31) (metX10_removeTransition hf) rfl wd_1_10 rfl wd_6_70 wd_6_71 wd_6_72 pnX10_removeTransition rfl wd_6_73
  · cases h; exact pvCe_W (metWL_setInitial hf) rfl wd_1_0 rfl wd_3_15 wd_3_16 pnL_setInitial wd_3_17
  · cases h; exact pvCe_V (k := 3) (T := TX10) (N := 31) (metX10_setInitial hf) rfl wd_1_10 rfl wd_6_78 wd_6_79 wd_6_80 pnX10_setInitial rfl wd_6_81
  · cases h; exact pvCe_W (metWL_setFinal hf) rfl wd_1_0 rfl wd_3_36 wd_3_37 pnL_setFinal wd_3_38
  · cases h; exact pvCe_V (k := 3) (T := TX10) (N := 31) (metX10_setFinal hf) rfl wd_1_10 rfl wd_6_86 wd_6_87 wd_6_88 pnX10_setFinal rfl wd_6_89
  · cases h; exact pvCe_W (metWL_copyAutomaton hf) rfl wd_1_0 rfl wd_3_51 wd_3_52 pnL_copyAutomaton wd_3_53
  · cases h; exact pvCe_V (k := 1) (T := TX10) (N := 31) (metX10_copyAutomaton hf) rfl wd_1_10 rfl wd_6_90 wd_6_91 wd_6_92 pnX10_copyAutomaton rfl wd_6_93
  · cases h; exact pvCe_W (metWL_clearAutomaton hf) rfl wd_1_0 rfl wd_3_62 wd_3_63 pnL_clearAutomaton wd_3_64
  · cases h; exact pvCe_V (k := 1) (T := TX10) (N := 31) (metX10_clearAutomaton hf) rfl wd_1_10 rfl wd_6_94 wd_6_95 wd_6_96 pnX10_clearAutomaton rfl wd_6_97
  · cases h; exact pvCe_W (metWL_transitionCount hf) rfl wd_1_0 rfl wd_3_73 wd_3_74 pnL_transitionCount wd_3_75
  · cases h; exact pvCe_V (k := 1) (T := TX10) (N := 31) (metX10_transitionCount hf) rfl wd_1_10 rfl wd_6_98 wd_6_99 wd_6_100 pnX10_transitionCount rfl wd_6_101
  · cases h; exact pvCe_W (metWL_transition hf) rfl wd_1_0 rfl wd_3_80 wd_3_81 pnL_transition wd_3_82
  · cases h; exact pvCe_V (k := 3) (T := TX10) (N := 31) (metX10_transition hf) rfl wd_1_10 rfl wd_6_102 wd_6_103 wd_6_104 pnX10_transition rfl wd_6_105
  · cases h; exact pvCe_W (metWL_constraint hf) rfl wd_1_0 rfl wd_3_88 wd_3_89 pnL_constraint wd_3_90
  · cases h; exact pvCe_V (k := 4) (T := TX10) (N := 31) (metX10_constraint hf) rfl wd_1_10 rfl wd_6_106 wd_6_107 wd_6_108 pnX10_constraint rfl wd_6_109
  · cases h; exact pvCe_W (metWL_satisfyingValuations hf) rfl wd_1_0 rfl wd_3_100 wd_3_101 pnL_satisfyingValuations wd_3_102
  · cases h; exact pvCe_V (k := 2) (T := TX10) (N := 31) (metX10_satisfyingValuations hf) rfl wd_1_10 rfl wd_6_110 wd_6_111 wd_6_112 pnX10_satisfyingValuations rfl wd_6_113
  · cases h; exact pvCe_W (metWL_appendEvent hf) rfl wd_1_0 rfl wd_3_120 wd_3_121 pnL_appendEvent wd_3_122
  · cases h; exact pvCe_V (k := 2) (T := TX10) (N := 31) (metX10_appendEvent hf) rfl wd_1_10 rfl wd_6_124 wd_6_125 wd_6_126 pnX10_appendEvent rfl wd_6_127
  · cases h; exact pvCe_V (k := 0) (T := TX9) (N := 11) (metX9_clearWord hf) rfl wd_1_1 rfl wd_1_238 wd_1_239 wd_2_0 pnX9_clearWord rfl wd_2_1
  · cases h; exact pvCe_V (k := 0) (T := TX10) (N := 31) (metX10_clearWord hf) rfl wd_1_10 rfl wd_6_128 wd_6_129 wd_6_130 pnX10_clearWord rfl wd_6_131
  · cases h; exact pvCe_V (k := 0) (T := TX9) (N := 11) (metX9_wordLength hf) rfl wd_1_1 rfl wd_2_6 wd_2_7 wd_2_8 pnX9_wordLength rfl wd_2_9
  · cases h; exact pvCe_V (k := 0) (T := TX10) (N := 31) (metX10_wordLength hf) rfl wd_1_10 rfl wd_6_132 wd_6_133 wd_6_134 pnX10_wordLength rfl wd_6_135
  · cases h; exact pvCe_W (metWL_event hf) rfl wd_1_0 rfl wd_3_141 wd_3_142 pnL_event wd_3_143
  · cases h; exact pvCe_V (k := 2) (T := TX10) (N := 31) (metX10_event hf) rfl wd_1_10 rfl wd_6_136 wd_6_137 wd_6_138 pnX10_event rfl wd_6_139
  · cases h; exact pvCe_W (metWL_valuationBefore hf) rfl wd_1_0 rfl wd_3_156 wd_3_157 pnL_valuationBefore wd_3_158
  · cases h; exact pvCe_V (k := 1) (T := TX10) (N := 31) (metX10_valuationBefore hf) rfl wd_1_10 rfl wd_6_144 wd_6_145 wd_6_146 pnX10_valuationBefore rfl wd_6_147
  · cases h; exact pvCe_W (metWL_statesAfter hf) rfl wd_1_0 rfl wd_3_173 wd_3_174 pnL_statesAfter wd_3_175
  · cases h; exact pvCe_V (k := 2) (T := TX10) (N := 31) (metX10_statesAfter hf) rfl wd_1_10 rfl wd_6_167 wd_6_168 wd_6_169 pnX10_statesAfter rfl wd_6_170
  · cases h; exact pvCe_W (metWL_accepts hf) rfl wd_1_0 rfl wd_3_204 wd_3_205 pnL_accepts wd_3_206
  · cases h; exact pvCe_V (k := 1) (T := TX10) (N := 31) (metX10_accepts hf) rfl wd_1_10 rfl wd_6_183 wd_6_184 wd_6_185 pnX10_accepts rfl wd_6_186
  · cases h; exact pvCe_W (metWL_runCount hf) rfl wd_1_0 rfl wd_3_211 wd_3_212 pnL_runCount wd_3_213
  · cases h; exact pvCe_V (k := 1) (T := TX10) (N := 31) (metX10_runCount hf) rfl wd_1_10 rfl wd_6_187 wd_6_188 wd_6_189 pnX10_runCount rfl wd_6_190
  · cases h; exact pvCe_W (metWL_acceptingRuns hf) rfl wd_1_0 rfl wd_3_234 wd_3_235 pnL_acceptingRuns wd_3_236
  · cases h; exact pvCe_V (k := 1) (T := TX10) (N := 31) (metX10_acceptingRuns hf) rfl wd_1_10 rfl wd_6_195 wd_6_196 wd_6_197 pnX10_acceptingRuns rfl wd_6_198
  · cases h; exact pvCe_W (metWL_firstRun hf) rfl wd_1_0 rfl wd_4_1 wd_4_2 pnL_firstRun wd_4_3
  · cases h; exact pvCe_V (k := 2) (T := TX10) (N := 31) (metX10_firstRun hf) rfl wd_1_10 rfl wd_6_199 wd_6_200 wd_6_201 pnX10_firstRun rfl wd_6_202
  · cases h; exact pvCe_W (metWL_stuckAt hf) rfl wd_1_0 rfl wd_4_49 wd_4_50 pnL_stuckAt wd_4_51
  · cases h; exact pvCe_V (k := 1) (T := TX10) (N := 31) (metX10_stuckAt hf) rfl wd_1_10 rfl wd_6_207 wd_6_208 wd_6_209 pnX10_stuckAt rfl wd_6_210
  · cases h; exact pvCe_W (metWL_blockingConstraint hf) rfl wd_1_0 rfl wd_4_60 wd_4_61 pnL_blockingConstraint wd_4_62
  · cases h; exact pvCe_V (k := 3) (T := TX10) (N := 31) (metX10_blockingConstraint hf) rfl wd_1_10 rfl wd_6_211 wd_6_212 wd_6_213 pnX10_blockingConstraint rfl wd_6_214
  · cases h; exact pvCe_W (metWL_deterministicStates hf) rfl wd_1_0 rfl wd_4_76 wd_4_77 pnL_deterministicStates wd_4_78
  · cases h; exact pvCe_V (k := 1) (T := TX10) (N := 31) (metX10_deterministicStates hf) rfl wd_1_10 rfl wd_6_215 wd_6_216 wd_6_217 pnX10_deterministicStates rfl wd_6_218
  · cases h; exact pvCe_W (metWL_deterministicSet hf) rfl wd_1_0 rfl wd_4_117 wd_4_118 pnL_deterministicSet wd_4_119
  · cases h; exact pvCe_V (k := 2) (T := TX10) (N := 31) (metX10_deterministicSet hf) rfl wd_1_10 rfl wd_6_235 wd_6_236 wd_6_237 pnX10_deterministicSet rfl wd_6_238
  · cases h; exact pvCe_W (metWL_branches hf) rfl wd_1_0 rfl wd_4_132 wd_4_133 pnL_branches wd_4_134
  · cases h; exact pvCe_V (k := 3) (T := TX10) (N := 31) (metX10_branches hf) rfl wd_1_10 rfl wd_6_239 wd_7_0 wd_7_1 pnX10_branches rfl wd_7_2
  · cases h; exact pvCe_W (metWL_branchTarget hf) rfl wd_1_0 rfl wd_4_145 wd_4_146 pnL_branchTarget wd_4_147
  · cases h; exact pvCe_V (k := 4) (T := TX10) (N := 31) (metX10_branchTarget hf) rfl wd_1_10 rfl wd_7_11 wd_7_12 wd_7_13 pnX10_branchTarget rfl wd_7_14
  · cases h; exact pvCe_W (metWL_branchValuations hf) rfl wd_1_0 rfl wd_4_164 wd_4_165 pnL_branchValuations wd_4_166
  · cases h; exact pvCe_V (k := 4) (T := TX10) (N := 31) (metX10_branchValuations hf) rfl wd_1_10 rfl wd_7_15 wd_7_16 wd_7_17 pnX10_branchValuations rfl wd_7_18
  · cases h; exact pvCe_W (metWL_deterministicRun hf) rfl wd_1_0 rfl wd_4_175 wd_4_176 pnL_deterministicRun wd_4_177
  · cases h; exact pvCe_V (k := 1) (T := TX10) (N := 31) (metX10_deterministicRun hf) rfl wd_1_10 rfl wd_7_19 wd_7_20 wd_7_21 pnX10_deterministicRun rfl wd_7_22
  · cases h; exact pvCe_W (metWL_isDeterministic hf) rfl wd_1_0 rfl wd_4_182 wd_4_183 pnL_isDeterministic wd_4_184
  · cases h; exact pvCe_V (k := 1) (T := TX10) (N := 31) (metX10_isDeterministic hf) rfl wd_1_10 rfl wd_7_23 wd_7_24 wd_7_25 pnX10_isDeterministic rfl wd_7_26
  · cases h; exact pvCe_W (metWL_isEmpty hf) rfl wd_1_0 rfl wd_4_195 wd_4_196 pnL_isEmpty wd_4_197
  · cases h; exact pvCe_V (k := 1) (T := TX10) (N := 31) (metX10_isEmpty hf) rfl wd_1_10 rfl wd_7_31 wd_7_32 wd_7_33 pnX10_isEmpty rfl wd_7_34
  · cases h; exact pvCe_W (metWL_takeWitness hf) rfl wd_1_0 rfl wd_5_4 wd_5_5 pnL_takeWitness wd_5_6
  · cases h; exact pvCe_V (k := 1) (T := TX10) (N := 31) (metX10_takeWitness hf) rfl wd_1_10 rfl wd_7_55 wd_7_56 wd_7_57 pnX10_takeWitness rfl wd_7_58
  · cases h; exact pvCe_W (metWL_takeDifference hf) rfl wd_1_0 rfl wd_5_42 wd_5_43 pnL_takeDifference wd_5_44
  · cases h; exact pvCe_V (k := 1) (T := TX10) (N := 31) (metX10_takeDifference hf) rfl wd_1_10 rfl wd_7_71 wd_7_72 wd_7_73 pnX10_takeDifference rfl wd_7_74
  · cases h; exact pvCe_W (metWL_isIncluded hf) rfl wd_1_0 rfl wd_5_49 wd_5_50 pnL_isIncluded wd_5_51
  · cases h; exact pvCe_V (k := 1) (T := TX10) (N := 31) (metX10_isIncluded hf) rfl wd_1_10 rfl wd_7_75 wd_7_76 wd_7_77 pnX10_isIncluded rfl wd_7_78
  · cases h; exact pvCe_W (metWL_acceptedWords hf) rfl wd_1_0 rfl wd_5_56 wd_5_57 pnL_acceptedWords wd_5_58
  · cases h; exact pvCe_V (k := 3) (T := TX10) (N := 31) (metX10_acceptedWords hf) rfl wd_1_10 rfl wd_7_79 wd_7_80 wd_7_81 pnX10_acceptedWords rfl wd_7_82
  · cases h; exact pvCe_W (metWL_acceptedShare hf) rfl wd_1_0 rfl wd_5_83 wd_5_84 pnL_acceptedShare wd_5_85
  · cases h; exact pvCe_V (k := 2) (T := TX10) (N := 31) (metX10_acceptedShare hf) rfl wd_1_10 rfl wd_7_91 wd_7_92 wd_7_93 pnX10_acceptedShare rfl wd_7_94
  · cases h; exact pvCe_W (metWL_averageBranches hf) rfl wd_1_0 rfl wd_5_94 wd_5_95 pnL_averageBranches wd_5_96
  · cases h; exact pvCe_V (k := 1) (T := TX10) (N := 31) (metX10_averageBranches hf) rfl wd_1_10 rfl wd_7_96 wd_7_97 wd_7_98 pnX10_averageBranches rfl wd_7_99
  · cases h; exact pvCe_W (metWL_undo hf) rfl wd_1_0 rfl wd_5_109 wd_5_110 pnL_undo wd_5_111
  · cases h; exact pvCe_V (k := 0) (T := TX10) (N := 31) (metX10_undo hf) rfl wd_1_10 rfl wd_6_3 wd_6_4 wd_6_5 pnX10_undo rfl wd_6_6
  · cases h; exact pvCe_V (k := 0) (T := TX9) (N := 11) (metX9_save hf) rfl wd_1_1 rfl wd_2_10 wd_2_11 wd_2_12 pnX9_save rfl wd_2_13
  · cases h; exact pvCe_V (k := 0) (T := TX10) (N := 31) (metX10_save hf) rfl wd_1_10 rfl wd_6_11 wd_6_12 wd_6_13 pnX10_save rfl wd_6_14
  · cases h; exact pvCe_W (metWL_restore hf) rfl wd_1_0 rfl wd_5_124 wd_5_125 pnL_restore wd_5_126
  · cases h; exact pvCe_V (k := 0) (T := TX10) (N := 31) (metX10_restore hf) rfl wd_1_10 rfl wd_6_15 wd_6_16 wd_6_17 pnX10_restore rfl wd_6_18
  · cases h
set_option maxHeartbeats 4000000 in
set_option maxRecDepth 100000 in
theorem whole_start {p : Program} {e : Env} {s : State} {m : MethodId} {below : List Frame} {meth : Method} {c : Code} (l : Launch) (hflags : l.flags = flags0) {b L : Nat} {xs : Nat → Int32} (hL : L ≤ 2560) (C0 : lw_At p s m meth c b L xs) : W p l e room_1 s m #[Value.ref b] below meth c s.heap [] 0 0 (lw_Z below #[Value.ref b] s) (entryFrame m ([Value.ref b] : List Value).toArray 9) := by
  obtain ⟨hx, hb, hr, hml, hown, hts1, hX, hbl, hlocks, hgv⟩ := id C0
  have hf : l.stackTraces = false := by
    unfold Launch.stackTraces
    rw [hflags]
    decide +kernel
  have hts : ∀ w ∈ pvTb, w.before #[Value.ref b] s = true := fun w h => hts1 w (List.mem_filter.mp h).1
  obtain ⟨D, cI, cJ, cD, hWc⟩ := pv_wc hts1 hgv
  have hXn := pv_xc hts1
  have hK := hWc.1
  have hA : ∀ q : Nat, s.heap.size ≤ q → (fun q : Nat => s.heap.size ≤ q) q := fun _ h => h
  have hS : va_S (fun q : Nat => s.heap.size ≤ q) s.heap s.heap [] := va_S.rf
  have hP : va_P D vwCl [] s.heap := fun k q h => by simp at h
  have hD : va_D (fun q : Nat => s.heap.size ≤ q) [] := ⟨fun i j p q h => by simp at h, fun k q h => by simp at h⟩
  have hl := lv_entry ([.ref b]) (n := 9) (Nat.le_of_ble_eq_true rfl)
  rw [lg_entry_eq]
  generalize (lg_sl ([.ref b]) ++ List.replicate (9 - (lg_sl ([.ref b])).length) Slot.unset).toArray = ls at hl ⊢
  have hl : lv_has ls 9 [(0, .ref b)] := hl
  refine va_new (ci := 8) (fs := [.null, .null, .null, .null, .null, .null, .null, .null, .null, .null, .null]) (C := RX9) (T := TX9) (N := 11) hx hb hts wsok_X9 tyX9 tyX9_ok hown (hts _ wd_1_22) (hts _ wd_1_23) (hts _ wd_1_1) hK hP hD hS hA rfl (fun j hj => by rcases (show j = 0 ∨ j = 1 ∨ j = 2 ∨ j = 3 ∨ j = 4 ∨ j = 5 ∨ j = 6 ∨ j = 7 ∨ j = 8 ∨ j = 9 ∨ j = 10 by omega) with rfl | rfl | rfl | rfl | rfl | rfl | rfl | rfl | rfl | rfl | rfl <;> rfl) (by first | exact Nat.le_of_ble_eq_true rfl | omega) (by first | exact Nat.le_of_ble_eq_true rfl | omega) (show decode cL_law 0 = .ok (.new 8, 3) from by decide +kernel) (fun q0 H hP hD hS => ?_)
  have hP : va_P D vwCl [(q0, .inr (8, [.null, .null, .null, .null, .null, .null, .null, .null, .null, .null, .null]))] H := hP
  have hD : va_D (fun q : Nat => s.heap.size ≤ q) [(q0, .inr (8, [.null, .null, .null, .null, .null, .null, .null, .null, .null, .null, .null]))] := hD
  refine lv_dup hx hb (show decode cL_law 3 = .ok (.dup, 1) from by decide +kernel) rfl ?_
  have hPc := hP.sub (ws' := [(q0, .inr (8, [.null, .null, .null, .null, .null, .null, .null, .null, .null, .null, .null]))]) [0] rfl
  have hDc := hD.sub (ws' := [(q0, .inr (8, [.null, .null, .null, .null, .null, .null, .null, .null, .null, .null, .null]))]) [0] (by decide) rfl
  have hFc := va_free (wc := [(q0, .inr (8, [.null, .null, .null, .null, .null, .null, .null, .null, .null, .null, .null]))]) hD hS hA [0] rfl
  refine va_callv (va_runI (As := []) (rest := [.ref q0]) ⟨hx, hb, hml, hown, hts⟩ (c_X9_init D cI cJ cD q0 H.size) (cwI 0 hts (pvGood_c pvTb_g wd_1_26) rfl rfl rfl (hts _ wd_1_1) (hts _ wd_1_24) (hts _ wd_1_25) rfl (by decide +kernel) ⟨(Nat.le_of_ble_eq_true rfl), (Nat.le_of_ble_eq_true rfl)⟩) ⟨fun a U g mk q => by obtain ⟨q0, q1, qP, qK, qD, qN⟩ := q; exact ⟨q0, q1, qP, va_K.moved (u := U) (U := U.calling g mk a) (Vm.Alike.refl U.vm) qK, qD, fun q9 h9 => va_Nw.same rfl rfl (qN q9 h9)⟩, fun U hU hW => ⟨rfl, by rw [hU], by rw [hU]; exact hPc, va_K.moved hW.alike hK, hDc.weaken (fun _ _ _ _ => trivial), fun q9 h9 => va_Nw.warmM hW (hXn q9 h9)⟩⟩ rfl rfl hl.1 rfl (lv_room (Nat.le_of_ble_eq_true rfl)) (show decode cL_law 4 = .ok (.invokespecial 140, 3) from by decide +kernel) ⟨(by first | exact Nat.le_of_ble_eq_true rfl | omega), (by first | exact Nat.le_of_ble_eq_true rfl | omega)⟩) hS (fun q _ h => hFc q h) hFc (fun u t H1 locs ht hvm _ hB hz1 hk1 hS => ?_)
  obtain ⟨u4, rfl⟩ : ∃ z, z = u := ⟨_, rfl⟩
  obtain ⟨hP1, hD1⟩ := hB
  rw [ht] at hP1
  obtain ⟨hP, hD⟩ := va_join (wr := []) (w1 := [(q0, .inr (8, [.ref (u4 0), .ref (u4 2), .ref (u4 4), .ref (u4 8), .ref (u4 12), .ref (u4 16), .ref (u4 19), .ref (u4 23), .ref (u4 27), .ref (u4 32), .ref (u4 35)])), ((u4 0), .inr (0, [.ref (u4 1)])), ((u4 1), .inl (cI, 173, .inl (upd (fun _ => (0 : Int32)) (1 : Int32).toNatClampNeg 1))), ((u4 2), .inr (0, [.ref (u4 3)])), ((u4 3), .inl (cI, 173, .inl (upd (fun _ => (0 : Int32)) (1 : Int32).toNatClampNeg 1))), ((u4 4), .inr (3, [.ref (u4 5), .ref (u4 6), .ref (u4 7), .int 0, .int 0, .int 0, .int 0])), ((u4 5), .inl (cI, 648, .inl fun _ => (0 : Int32))), ((u4 6), .inl (cI, 16, .inl fun _ => (0 : Int32))), ((u4 7), .inl (cI, 16, .inl fun _ => (0 : Int32))), ((u4 8), .inr (3, [.ref (u4 9), .ref (u4 10), .ref (u4 11), .int 0, .int 0, .int 0, .int 0])), ((u4 9), .inl (cI, 648, .inl fun _ => (0 : Int32))), ((u4 10), .inl (cI, 16, .inl fun _ => (0 : Int32))), ((u4 11), .inl (cI, 16, .inl fun _ => (0 : Int32))), ((u4 12), .inr (3, [.ref (u4 13), .ref (u4 14), .ref (u4 15), .int 0, .int 0, .int 0, .int 0])), ((u4 13), .inl (cI, 648, .inl fun _ => (0 : Int32))), ((u4 14), .inl (cI, 16, .inl fun _ => (0 : Int32))), ((u4 15), .inl (cI, 16, .inl fun _ => (0 : Int32))), ((u4 16), .inr (1, [.ref (u4 17), .int 0, .ref (u4 18), .int 0, .int (-1)])), ((u4 17), .inl (cI, 30, .inl fun _ => (0 : Int32))), ((u4 18), .inl (cI, 12, .inl fun _ => (0 : Int32))), ((u4 19), .inr (6, [.ref (u4 20), .ref (u4 21), .ref (u4 22), .int 215, .int 0])), ((u4 20), .inl (cI, 10, .inl fun _ => (0 : Int32))), ((u4 21), .inl (cI, 10, .inl fun _ => (0 : Int32))), ((u4 22), .inl (cI, 10, .inl fun _ => (0 : Int32))), ((u4 23), .inr (4, [.ref (u4 24), .ref (u4 25), .ref (u4 26)])), ((u4 24), .inl (cJ, 4, .inr (.inl fun _ => (0 : Int64)))), ((u4 25), .inl (cJ, 4, .inr (.inl fun _ => (0 : Int64)))), ((u4 26), .inl (cI, 11, .inl fun _ => (0 : Int32))), ((u4 27), .inr (5, [.ref (u4 28), .ref (u4 29), .ref (u4 30), .ref (u4 31), .int 0])), ((u4 28), .inl (cI, 23552, .inl fun _ => (0 : Int32))), ((u4 29), .inl (cI, 23552, .inl fun _ => (0 : Int32))), ((u4 30), .inl (cI, 23552, .inl fun _ => (0 : Int32))), ((u4 31), .inl (cI, 12, .inl fun _ => (0 : Int32))), ((u4 32), .inr (7, [.ref (u4 33), .ref (u4 34)])), ((u4 33), .inl (cJ, 3456, .inr (.inl fun _ => (0 : Int64)))), ((u4 34), .inl (cJ, 3456, .inr (.inl fun _ => (0 : Int64)))), ((u4 35), .inr (2, [.ref (u4 36), .ref (u4 37), .int 0, .int 0, .int 0])), ((u4 36), .inl (cI, 2768, .inl fun _ => (0 : Int32))), ((u4 37), .inl (cI, 346, .inl fun _ => (0 : Int32)))]) hP hD [0] [] rfl rfl (by decide) (by decide) hk1 hFc hP1 hD1
  generalize H1 = H at hP hS ⊢
  obtain ⟨ad0, had0⟩ : ∃ ad0 : Nat → Nat, ad0 = fun id => if id = 0 then q0 else u4 (id - 1) := ⟨_, rfl⟩
  have hP : va_P D vwCl (pvWs ad0 cI cJ cD 39 stM) H := by
    rw [had0, ← st_world]
    exact hP
  have hD : va_D (fun q : Nat => s.heap.size ≤ q) (pvWs ad0 cI cJ cD 39 stM) := by
    rw [had0, ← st_world]
    exact hD
  clear hPc hDc hP1 hD1
  refine lv_astore_n (lv' := [(1, .ref q0), (0, .ref b)]) hx hb (show decode cL_law 7 = .ok (.astore_n 1, 1) from by decide +kernel) rfl hl (by decide) rfl (fun ls hl => ?_)
  refine va_new (ci := 9) (fs := [.null, .null, .null, .int 0, .int 0, .null, .null, .int 0, .int 0, .null, .int 0, .int 0, .int 0, .null, .int 0, .null, .null, .null, .int 0, .null, .null, .int 0, .null, .null, .null, .null, .int 0, .int 0, .int 0, .null, .null]) (C := RX10) (T := TX10) (N := 31) hx hb hts wsok_X10 tyX10 tyX10_ok hown (hts _ wd_5_135) (hts _ wd_5_136) (hts _ wd_1_10) hK hP hD hS hA rfl (fun j hj => by rcases (show j = 0 ∨ j = 1 ∨ j = 2 ∨ j = 3 ∨ j = 4 ∨ j = 5 ∨ j = 6 ∨ j = 7 ∨ j = 8 ∨ j = 9 ∨ j = 10 ∨ j = 11 ∨ j = 12 ∨ j = 13 ∨ j = 14 ∨ j = 15 ∨ j = 16 ∨ j = 17 ∨ j = 18 ∨ j = 19 ∨ j = 20 ∨ j = 21 ∨ j = 22 ∨ j = 23 ∨ j = 24 ∨ j = 25 ∨ j = 26 ∨ j = 27 ∨ j = 28 ∨ j = 29 ∨ j = 30 by omega) with rfl | rfl | rfl | rfl | rfl | rfl | rfl | rfl | rfl | rfl | rfl | rfl | rfl | rfl | rfl | rfl | rfl | rfl | rfl | rfl | rfl | rfl | rfl | rfl | rfl | rfl | rfl | rfl | rfl | rfl | rfl <;> rfl) (by first | exact Nat.le_of_ble_eq_true rfl | omega) (by first | exact Nat.le_of_ble_eq_true rfl | omega) (show decode cL_law 8 = .ok (.new 141, 3) from by decide +kernel) (fun q8 H hP hD hS => ?_)
  refine lv_dup hx hb (show decode cL_law 11 = .ok (.dup, 1) from by decide +kernel) rfl ?_
  have hPa := va_P_l hP
  have hPb := va_P_r hP
  refine va_callv (va_runI (As := []) (rest := [.ref q8]) ⟨hx, hb, hml, hown, hts⟩ (c_X10_init hf D cI cJ cD ad0 stM st_rng q8 (fun q : Nat => s.heap.size ≤ q)) (cwI 0 hts (pvGood_c pvTb_g wd_5_139) rfl rfl rfl (hts _ wd_1_10) (hts _ wd_5_137) (hts _ wd_5_138) rfl (by decide +kernel) ⟨(Nat.le_of_ble_eq_true rfl), (Nat.le_of_ble_eq_true rfl)⟩) ⟨fun a U g mk q => by obtain ⟨q1, q2, q3, q4, q5⟩ := q; exact ⟨q1, pvWc_blind g mk a q2, q3, q4, q5⟩, fun U hU hW => ⟨rfl, pvWc_move hWc hS hU hW, by rw [hU]; exact hPa, by rw [hU]; exact hPb, hD⟩⟩ rfl rfl hl.1 rfl (lv_room (Nat.le_of_ble_eq_true rfl)) (show decode cL_law 12 = .ok (.invokespecial 143, 3) from by decide +kernel) ⟨(by first | exact Nat.le_of_ble_eq_true rfl | omega), (by first | exact Nat.le_of_ble_eq_true rfl | omega)⟩) hS (fun q _ h => h) (fun q h => h) (fun u t H1 locs ht hvm hw hB hz1 hk1 hS => ?_)
  obtain ⟨ad1, z1⟩ := u
  obtain ⟨hw1, hw2, hw3, hw4⟩ := hw
  obtain ⟨hP1, hD1⟩ := hB
  rw [ht] at hP1
  have hP : va_P D vwCl (pvWs ad1 cI cJ cD 58 z1) H1 := hP1
  have hD : va_D (fun q : Nat => s.heap.size ≤ q) (pvWs ad1 cI cJ cD 58 z1) := hD1
  clear hP1 hD1 hPa hPb
  refine lv_astore_n (lv' := [(2, .ref q8), (1, .ref q0), (0, .ref b)]) hx hb (show decode cL_law 15 = .ok (.astore_n 2, 1) from by decide +kernel) rfl hl (by decide) rfl (fun ls hl => ?_)
  refine lv_iconst (v := 1) hx hb (show decode cL_law 16 = .ok (.iconst 1, 1) from by decide +kernel) (by decide) ?_
  refine pv_newa (atype := .long) (ty := .long) (N' := 1) (a0 := (1, .inr (.inl fun _ => (0 : Int64)))) hx hb (hts _ wd_1_140) rfl hK (j := 1) rfl hP hD hS hA (fun _ => rfl) (by decide) (by decide) (by decide) (by first | exact Nat.le_of_ble_eq_true rfl | omega) (by first | exact Nat.le_of_ble_eq_true rfl | omega) (show decode cL_law 17 = .ok (.newarray .long, 2) from by decide +kernel) (fun q17 H hP hD hS => ?_)
  refine lv_astore_n (lv' := [(3, .ref q17), (2, .ref q8), (1, .ref q0), (0, .ref b)]) hx hb (show decode cL_law 19 = .ok (.astore_n 3, 1) from by decide +kernel) rfl hl (by decide) rfl (fun ls hl => ?_)
  refine lv_iconst (v := 1) hx hb (show decode cL_law 20 = .ok (.iconst 1, 1) from by decide +kernel) (by decide) ?_
  refine pv_newa (atype := .double) (ty := .double) (N' := 1) (a0 := (1, .inr (.inr (.inr (.inl fun _ => (0 : UInt64)))))) hx hb (hts _ wd_7_100) rfl hK (j := 2) rfl hP hD hS hA (fun _ => rfl) (by decide) (by decide) (by decide) (by first | exact Nat.le_of_ble_eq_true rfl | omega) (by first | exact Nat.le_of_ble_eq_true rfl | omega) (show decode cL_law 21 = .ok (.newarray .double, 2) from by decide +kernel) (fun q21 H hP hD hS => ?_)
  refine lv_astore (lv' := [(4, .ref q21), (3, .ref q17), (2, .ref q8), (1, .ref q0), (0, .ref b)]) hx hb (show decode cL_law 23 = .ok (.astore 4, 2) from by decide +kernel) hl (by decide) rfl (fun ls hl => ?_)
  refine lv_iconst (v := 0) hx hb (show decode cL_law 25 = .ok (.iconst 0, 1) from by decide +kernel) (by decide) ?_
  refine lv_istore (lv' := [(5, .int 0), (4, .ref q21), (3, .ref q17), (2, .ref q8), (1, .ref q0), (0, .ref b)]) hx hb (show decode cL_law 26 = .ok (.istore 5, 2) from by decide +kernel) hl (by decide) rfl (fun ls hl => ?_)
  obtain ⟨ad, had⟩ : ∃ ad : Nat → Nat, ad = fun id => if id < 58 then ad1 id else if id = 58 then q17 else if id = 59 then q21 else b := ⟨_, rfl⟩
  have hPz : va_P D vwCl (pvWs ad cI cJ cD 60 (otM z1)) H := by
    rw [had, ot_world]
    exact hP
  have hDz : va_D (fun q : Nat => s.heap.size ≤ q) (pvWs ad cI cJ cD 60 (otM z1)) := by
    rw [had, ot_world]
    exact hD
  have ha60 : ad 60 = b := by rw [had]; rfl
  have ha58 : ad 58 = q17 := by rw [had]; rfl
  have ha59 : ad 59 = q21 := by rw [had]; rfl
  have ha39 : ad 39 = q8 := by
    rw [had]
    exact hw2
  have ha0 : ad 0 = q0 := by
    rw [had]
    exact (hw1 0 (by decide)).trans (by rw [had0]; rfl)
  clear hP hD had had0
  have M : pvMc "EventClockWorkbenchLaw" code 9 pvTb p s m #[Value.ref b] meth c := ⟨hx, hb, hml, hown, hts, hlocks⟩
  let Qm : State → Prop := lw_Z below #[Value.ref b] s
  let Qp : pvO → pvM → Prop := fun o _ => o = .inl (some (vI 1))
  let sc : Nat × (Nat → Int) := (L, fun j => (xs j).toInt)
  let SWm : pvJ := pvSW p l e room_1 s m #[Value.ref b] below meth c Qm 9 60 61 165683 ad D cI cJ cD (fun q : Nat => s.heap.size ≤ q)
  have hD' : ∀ z, va_D (fun q : Nat => s.heap.size ≤ q) (pvWs ad cI cJ cD 60 z) := fun z' => pvD_any hDz
  have hsc : pvScOk 61 sc ad (fun q : Nat => s.heap.size ≤ q) s := fun _ => ⟨L, xs, rfl, by omega, by rw [ha60]; exact hX, by rw [ha60]; exact hbl, by rw [ha60]; exact Nat.not_le.mpr hbl⟩
  have hR : 61 + 514 ≤ room_1.cells ∧ 165683 + 6 * 514 ≤ room_1.slots := ⟨Nat.le_of_ble_eq_true rfl, Nat.le_of_ble_eq_true rfl⟩
  have hcp : ∀ ix, eL ix = some 100 ∨ eL ix = some 101 → (Cond.methodLink "EventClockWorkbenchLaw" ix arraycopyName).before #[Value.ref b] s = true ∧ (Cond.native arraycopyName).before #[Value.ref b] s = true ∧ (Cond.static arraycopyName).before #[Value.ref b] s = true ∧ (Cond.initialized "java/lang/System").before #[Value.ref b] s = true ∧ 1 ≤ room_1.frames ∧ 8 + (nativeFrameWords "java/lang/System" "arraycopy" 5 + 11) ≤ room_1.locals := fun ix h => by
    unfold eL at h
    rcases h with h | h <;> cases h
  have hRt : ∀ (i : Instr) (v : Option pvV) (pc g : Nat) (z : pvM), pvRk i v = true → decode code pc = .ok (i, 1) → pvRt2 514 (some .boolean) Qp v z g → (∀ x, v = some x → pvOk x) → pvRng z → ∀ (H : Heap) (locs : List Loc) (arr : Array Slot), va_P D vwCl (pvWs ad cI cJ cD 60 z) H → va_S (fun q : Nat => s.heap.size ≤ q) s.heap H locs →
      W p l e room_1 s m #[Value.ref b] below meth c H locs (61 + g) (165683 + 6 * g) Qm (F0 m pc arr (v.map (pvRe ad)).toList) := by
    intro i v pc g z' hrk hd hret hok hrz H locs arr hP' hSS
    obtain ⟨-, hq, hg⟩ := hret
    have hv : v = some (vI 1) := Sum.inl.inj hq
    subst hv
    cases i <;> first | (cases hrk; done) | skip
    refine va_forget (fun q hq => hSS.2.2 q hq) ?_
    refine W.widen (k := 1088) (n := 173893) (by omega) (by omega) ?_
    exact W.base (lw_ret (Drawn.sameBut.refl s.drawn lw_cs) hx hb hr hlocks hd)
  have hTx : ∀ (k pc g : Nat) (z : pvM), pvTh2 k pc z g → pvRng z → ∀ (H : Heap) (locs : List Loc) (arr : Array Slot) (ls : pvL) (q : Addr) (ce : Cell) (rest : List Value), pvLh ad ls arr 9 → va_P D vwCl (pvWs ad cI cJ cD 60 z) H → va_S (fun q : Nat => s.heap.size ≤ q) s.heap H locs → H[q]? = some ce → ce.vm = .none → s.vm.findClass (pvXn k) = some ce.cls →
      vx_W p l e room_1 s m #[Value.ref b] below meth c H locs (61 + g + 1) (165683 + 6 * g + 6) Qm (F0 m pc arr rest) q := fun k pc g z h => False.elim h
  have hNw : ∀ (ix ic k pc g : Nat) (z : pvM), eL ix = some k → k < 4 → decode code pc = .ok (.new ix, 3) → decode code (pc + 3) = .ok (.dup, 1) → decode code (pc + 4) = .ok (.invokespecial ic, 3) → decode code (pc + 7) = .ok (.athrow, 1) → g < 514 → pvTh2 k (pc + 7) z g → pvRng z →
      ∀ (H : Heap) (locs : List Loc) (arr : Array Slot), va_P D vwCl (pvWs ad cI cJ cD 60 z) H → va_S (fun q : Nat => s.heap.size ≤ q) s.heap H locs → arr.size = 9 → W p l e room_1 s m #[Value.ref b] below meth c H locs (61 + g) (165683 + 6 * g) Qm (F0 m pc arr []) := fun ix ic k pc g z _ _ _ _ _ _ _ h => False.elim h
  have hX9 : ∀ (n pc : Nat) (ls : pvL) (st : List pvV) (z : pvM) (g : Nat), pvX 61 sc fL aL_law kL eL 514 (pvRt2 514 (some .boolean) Qp) pvTh2 bL_law uL_law (fun pc ls z g => SWm pc ls [] z g) n pc ls st z g → SWm pc ls st z g := by
    intro n
    induction n with
    | zero => exact fun _ _ _ _ _ h => False.elim h
    | succ n ih =>
      intro pc ls st z' g h
      simp only [pvX] at h
      split at h
      · rename_i mm hcut
        obtain ⟨rfl, hk⟩ := h
        intro hL hS hz' H locs arr hP' hSS hl
        exact hk (pvOkL_mk mm hL) hS hz' H locs arr hP' hSS (pvLh_mk mm hl)
      · exact pvB_ok M pvTb_g coL foL pvCl (caL_law hf) hWc (Nat.le_refl _) (Or.inr ⟨rfl, Nat.le_refl _⟩) ⟨by decide, Nat.le_refl _⟩ hsc hcp hR hD' (fun _ _ _ _ _ h => ih _ _ _ _ _ h) hRt hTx hNw _ _ _ _ _ _ (chL_law pc) h
  have hcl : pvCl2 sc 514 fL aL_law kL eL (some .boolean) bL_law uL_law Qp (fun pc ls z g => SWm pc ls [] z g) := by
    intro n pc ls z' g h hL hS hz' H locs arr hP' hSS hl
    exact pvB_ok M pvTb_g coL foL pvCl (caL_law hf) hWc (Nat.le_refl _) (Or.inr ⟨rfl, Nat.le_refl _⟩) ⟨by decide, Nat.le_refl _⟩ hsc hcp hR hD' (fun _ _ _ _ _ h => hX9 n _ _ _ _ _ h) hRt hTx hNw _ _ _ _ _ _ (chL_law pc) (h hL hz') hL hS hz' H locs arr hP' hSS hl
  have hgo := lw_head hcl (fun _ => rfl) 512 (otM z1) 0 0 (lwI_o (st_lw hw4)) ⟨Int.le_refl 0, by decide, by show (L : Int) ≤ 2147483647; omega⟩ (by show (L : Int) - 0 ≤ 5 * ((512 : Nat) : Int); omega) (Nat.le_refl _)
  refine W.widen (k := 61) (n := 165683) (Nat.le_of_ble_eq_true rfl) (Nat.le_of_ble_eq_true rfl) ?_
  refine hgo (fun k v hk => ?_) (fun v hv => absurd hv List.not_mem_nil) hw3 H locs ls hPz hS ⟨?_, rfl⟩
  · match k, hk with
    | 0, hk => cases hk; exact True.intro
    | 1, hk => cases hk; exact True.intro
    | 2, hk => cases hk; exact True.intro
    | 3, hk => cases hk; exact True.intro
    | 4, hk => cases hk; exact True.intro
    | 5, hk => cases hk; exact ⟨by decide, by decide⟩
    | 6, hk => cases hk
    | 7, hk => cases hk
    | 8, hk => cases hk
    | k + 9, hk => cases hk
  · rw [show pvAr ad (lwL 0) = [(0, Value.ref (ad 60)), (1, Value.ref (ad 0)), (2, Value.ref (ad 39)), (3, Value.ref (ad 58)), (4, Value.ref (ad 59)), (5, Value.int (Int32.ofInt 0))] from rfl, ha60, ha0, ha39, ha58, ha59]
    exact lv_sub hl [5, 4, 3, 2, 1, 0] rfl
