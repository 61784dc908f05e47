/-! classes: fields, constants, links -/
theorem wsok_X0 : ∀ w ∈ u_ws RX0 TX0 1, w ∈ pvTb := List.forall_mem_cons.mpr ⟨wd_1_45, fun _ h => absurd h List.not_mem_nil⟩
theorem wsok_X1 : ∀ w ∈ u_ws RX1 TX1 5, w ∈ pvTb := List.forall_mem_cons.mpr ⟨wd_1_96, List.forall_mem_cons.mpr ⟨wd_1_98, List.forall_mem_cons.mpr ⟨wd_1_100, List.forall_mem_cons.mpr ⟨wd_1_102, List.forall_mem_cons.mpr ⟨wd_1_104, fun _ h => absurd h List.not_mem_nil⟩⟩⟩⟩⟩
theorem wsok_X2 : ∀ w ∈ u_ws RX2 TX2 5, w ∈ pvTb := List.forall_mem_cons.mpr ⟨wd_1_193, List.forall_mem_cons.mpr ⟨wd_1_195, List.forall_mem_cons.mpr ⟨wd_1_197, List.forall_mem_cons.mpr ⟨wd_1_199, List.forall_mem_cons.mpr ⟨wd_1_201, fun _ h => absurd h List.not_mem_nil⟩⟩⟩⟩⟩
theorem wsok_X3 : ∀ w ∈ u_ws RX3 TX3 7, w ∈ pvTb := List.forall_mem_cons.mpr ⟨wd_1_68, List.forall_mem_cons.mpr ⟨wd_1_70, List.forall_mem_cons.mpr ⟨wd_1_72, List.forall_mem_cons.mpr ⟨wd_1_74, List.forall_mem_cons.mpr ⟨wd_1_76, List.forall_mem_cons.mpr ⟨wd_1_78, List.forall_mem_cons.mpr ⟨wd_1_80, fun _ h => absurd h List.not_mem_nil⟩⟩⟩⟩⟩⟩⟩
theorem wsok_X4 : ∀ w ∈ u_ws RX4 TX4 3, w ∈ pvTb := List.forall_mem_cons.mpr ⟨wd_1_139, List.forall_mem_cons.mpr ⟨wd_1_141, List.forall_mem_cons.mpr ⟨wd_1_143, fun _ h => absurd h List.not_mem_nil⟩⟩⟩
theorem wsok_X5 : ∀ w ∈ u_ws RX5 TX5 5, w ∈ pvTb := List.forall_mem_cons.mpr ⟨wd_1_158, List.forall_mem_cons.mpr ⟨wd_1_160, List.forall_mem_cons.mpr ⟨wd_1_162, List.forall_mem_cons.mpr ⟨wd_1_164, List.forall_mem_cons.mpr ⟨wd_1_166, fun _ h => absurd h List.not_mem_nil⟩⟩⟩⟩⟩
theorem wsok_X6 : ∀ w ∈ u_ws RX6 TX6 5, w ∈ pvTb := List.forall_mem_cons.mpr ⟨wd_1_119, List.forall_mem_cons.mpr ⟨wd_1_121, List.forall_mem_cons.mpr ⟨wd_1_123, List.forall_mem_cons.mpr ⟨wd_1_125, List.forall_mem_cons.mpr ⟨wd_1_127, fun _ h => absurd h List.not_mem_nil⟩⟩⟩⟩⟩
theorem wsok_X8 : ∀ w ∈ u_ws RX8 TX8 2, w ∈ pvTb := List.forall_mem_cons.mpr ⟨wd_1_177, List.forall_mem_cons.mpr ⟨wd_1_179, fun _ h => absurd h List.not_mem_nil⟩⟩
theorem wsok_X9 : ∀ w ∈ u_ws RX9 TX9 11, w ∈ pvTb := List.forall_mem_cons.mpr ⟨wd_1_215, List.forall_mem_cons.mpr ⟨wd_1_217, List.forall_mem_cons.mpr ⟨wd_1_219, List.forall_mem_cons.mpr ⟨wd_1_221, List.forall_mem_cons.mpr ⟨wd_1_223, List.forall_mem_cons.mpr ⟨wd_1_225, List.forall_mem_cons.mpr ⟨wd_1_227, List.forall_mem_cons.mpr ⟨wd_1_229, List.forall_mem_cons.mpr ⟨wd_1_231, List.forall_mem_cons.mpr ⟨wd_1_233, List.forall_mem_cons.mpr ⟨wd_1_235, fun _ h => absurd h List.not_mem_nil⟩⟩⟩⟩⟩⟩⟩⟩⟩⟩⟩
theorem wsok_J0 : ∀ w ∈ u_ws RJ0 TJ0 4, w ∈ pvTb := List.forall_mem_cons.mpr ⟨wd_4_26, List.forall_mem_cons.mpr ⟨wd_4_28, List.forall_mem_cons.mpr ⟨wd_4_30, List.forall_mem_cons.mpr ⟨wd_4_32, fun _ h => absurd h List.not_mem_nil⟩⟩⟩⟩
theorem wsok_J4 : ∀ w ∈ u_ws RJ4 TJ4 4, w ∈ pvTb := List.forall_mem_cons.mpr ⟨wd_3_79, List.forall_mem_cons.mpr ⟨wd_3_81, List.forall_mem_cons.mpr ⟨wd_3_83, List.forall_mem_cons.mpr ⟨wd_3_85, fun _ h => absurd h List.not_mem_nil⟩⟩⟩⟩
theorem pvCl : pvClOk pvTb := by
  intro ci C T N h
  match ci, h with
  | 0, h => cases h; exact ⟨wsok_X0, tyX0, tyX0_ok, nmX0, by decide +kernel, by decide +kernel⟩
  | 1, h => cases h; exact ⟨wsok_X1, tyX1, tyX1_ok, nmX1, by decide +kernel, by decide +kernel⟩
  | 2, h => cases h; exact ⟨wsok_X2, tyX2, tyX2_ok, nmX2, by decide +kernel, by decide +kernel⟩
  | 3, h => cases h; exact ⟨wsok_X3, tyX3, tyX3_ok, nmX3, by decide +kernel, by decide +kernel⟩
  | 4, h => cases h; exact ⟨wsok_X4, tyX4, tyX4_ok, nmX4, by decide +kernel, by decide +kernel⟩
  | 5, h => cases h; exact ⟨wsok_X5, tyX5, tyX5_ok, nmX5, by decide +kernel, by decide +kernel⟩
  | 6, h => cases h; exact ⟨wsok_X6, tyX6, tyX6_ok, nmX6, by decide +kernel, by decide +kernel⟩
  | 7, h => cases h; exact ⟨wsok_X8, tyX8, tyX8_ok, nmX8, by decide +kernel, by decide +kernel⟩
  | 8, h => cases h; exact ⟨wsok_X9, tyX9, tyX9_ok, nmX9, by decide +kernel, by decide +kernel⟩
  | 9, h => cases h; exact ⟨wsok_J0, tyJ0, tyJ0_ok, nmJ0, by decide +kernel, by decide +kernel⟩
  | 10, h => cases h; exact ⟨wsok_J4, tyJ4, tyJ4_ok, nmJ4, by decide +kernel, by decide +kernel⟩
  | k + 11, h => simp at h
theorem foX0 : pvFOk "EventClockWorkbench$Automaton" pvTb fX0 := by
  intro ix ci k kd h
  unfold fX0 at h
  split at h
  · cases h; exact ⟨RX0, TX0, 1, rfl, by decide, rfl, rfl, wd_1_44⟩
  · cases h; exact ⟨RX1, TX1, 5, rfl, by decide, rfl, rfl, wd_1_93⟩
  · cases h
theorem coX0 : pvCoOk "EventClockWorkbench$Automaton" pvTb kX0 := by
  intro ix v h
  unfold kX0 at h
  split at h
  · cases h; exact wd_4_162
  · cases h
theorem foX1 : pvFOk "EventClockWorkbench$GuardText" pvTb fX1 := by
  intro ix ci k kd h
  unfold fX1 at h
  split at h
  · cases h; exact ⟨RX1, TX1, 5, rfl, by decide, rfl, rfl, wd_1_89⟩
  · cases h; exact ⟨RX1, TX1, 5, rfl, by decide, rfl, rfl, wd_1_90⟩
  · cases h; exact ⟨RX1, TX1, 5, rfl, by decide, rfl, rfl, wd_1_91⟩
  · cases h; exact ⟨RX1, TX1, 5, rfl, by decide, rfl, rfl, wd_1_92⟩
  · cases h; exact ⟨RX1, TX1, 5, rfl, by decide, rfl, rfl, wd_1_94⟩
  · cases h
theorem coX1 : pvCoOk "EventClockWorkbench$GuardText" pvTb kX1 := by
  intro ix v h
  unfold kX1 at h
  cases h
theorem foX2 : pvFOk "EventClockWorkbench$History" pvTb fX2 := by
  intro ix ci k kd h
  unfold fX2 at h
  split at h
  · cases h; exact ⟨RX2, TX2, 5, rfl, by decide, rfl, rfl, wd_1_188⟩
  · cases h; exact ⟨RX2, TX2, 5, rfl, by decide, rfl, rfl, wd_1_189⟩
  · cases h; exact ⟨RX2, TX2, 5, rfl, by decide, rfl, rfl, wd_1_190⟩
  · cases h; exact ⟨RX2, TX2, 5, rfl, by decide, rfl, rfl, wd_1_191⟩
  · cases h; exact ⟨RX2, TX2, 5, rfl, by decide, rfl, rfl, wd_1_192⟩
  · cases h
theorem coX2 : pvCoOk "EventClockWorkbench$History" pvTb kX2 := by
  intro ix v h
  unfold kX2 at h
  cases h
theorem foX3 : pvFOk "EventClockWorkbench$Powerset" pvTb fX3 := by
  intro ix ci k kd h
  unfold fX3 at h
  split at h
  · cases h; exact ⟨RX3, TX3, 7, rfl, by decide, rfl, rfl, wd_1_55⟩
  · cases h; exact ⟨RX3, TX3, 7, rfl, by decide, rfl, rfl, wd_1_56⟩
  · cases h; exact ⟨RX3, TX3, 7, rfl, by decide, rfl, rfl, wd_1_57⟩
  · cases h; exact ⟨RX3, TX3, 7, rfl, by decide, rfl, rfl, wd_1_58⟩
  · cases h; exact ⟨RX3, TX3, 7, rfl, by decide, rfl, rfl, wd_1_60⟩
  · cases h; exact ⟨RX3, TX3, 7, rfl, by decide, rfl, rfl, wd_1_63⟩
  · cases h; exact ⟨RX3, TX3, 7, rfl, by decide, rfl, rfl, wd_1_66⟩
  · cases h
theorem coX3 : pvCoOk "EventClockWorkbench$Powerset" pvTb kX3 := by
  intro ix v h
  unfold kX3 at h
  cases h
theorem foX5 : pvFOk "EventClockWorkbench$Search" pvTb fX5 := by
  intro ix ci k kd h
  unfold fX5 at h
  split at h
  · cases h; exact ⟨RX5, TX5, 5, rfl, by decide, rfl, rfl, wd_1_153⟩
  · cases h; exact ⟨RX5, TX5, 5, rfl, by decide, rfl, rfl, wd_1_154⟩
  · cases h; exact ⟨RX5, TX5, 5, rfl, by decide, rfl, rfl, wd_1_155⟩
  · cases h; exact ⟨RX5, TX5, 5, rfl, by decide, rfl, rfl, wd_1_156⟩
  · cases h; exact ⟨RX5, TX5, 5, rfl, by decide, rfl, rfl, wd_1_157⟩
  · cases h; exact ⟨RX3, TX3, 7, rfl, by decide, rfl, rfl, wd_1_62⟩
  · cases h; exact ⟨RX3, TX3, 7, rfl, by decide, rfl, rfl, wd_1_65⟩
  · cases h
theorem coX5 : pvCoOk "EventClockWorkbench$Search" pvTb kX5 := by
  intro ix v h
  unfold kX5 at h
  cases h
theorem foX6 : pvFOk "EventClockWorkbench$TimedWord" pvTb fX6 := by
  intro ix ci k kd h
  unfold fX6 at h
  split at h
  · cases h; exact ⟨RX6, TX6, 5, rfl, by decide, rfl, rfl, wd_1_113⟩
  · cases h; exact ⟨RX6, TX6, 5, rfl, by decide, rfl, rfl, wd_1_114⟩
  · cases h; exact ⟨RX6, TX6, 5, rfl, by decide, rfl, rfl, wd_1_115⟩
  · cases h; exact ⟨RX6, TX6, 5, rfl, by decide, rfl, rfl, wd_1_116⟩
  · cases h; exact ⟨RX6, TX6, 5, rfl, by decide, rfl, rfl, wd_1_117⟩
  · cases h
theorem coX6 : pvCoOk "EventClockWorkbench$TimedWord" pvTb kX6 := by
  intro ix v h
  unfold kX6 at h
  cases h
theorem foX7 : pvFOk "EventClockWorkbench$Values" pvTb fX7 := by
  intro ix ci k kd h
  unfold fX7 at h
  cases h
theorem coX7 : pvCoOk "EventClockWorkbench$Values" pvTb kX7 := by
  intro ix v h
  unfold kX7 at h
  split at h
  · cases h; exact wd_4_181
  · cases h
theorem foX8 : pvFOk "EventClockWorkbench$WordCounter" pvTb fX8 := by
  intro ix ci k kd h
  unfold fX8 at h
  split at h
  · cases h; exact ⟨RX8, TX8, 2, rfl, by decide, rfl, rfl, wd_1_175⟩
  · cases h; exact ⟨RX8, TX8, 2, rfl, by decide, rfl, rfl, wd_1_176⟩
  · cases h; exact ⟨RX3, TX3, 7, rfl, by decide, rfl, rfl, wd_1_61⟩
  · cases h; exact ⟨RX3, TX3, 7, rfl, by decide, rfl, rfl, wd_1_64⟩
  · cases h
theorem coX8 : pvCoOk "EventClockWorkbench$WordCounter" pvTb kX8 := by
  intro ix v h
  unfold kX8 at h
  split at h
  · cases h; exact wd_3_45
  · cases h
theorem foX9 : pvFOk "EventClockWorkbench" pvTb fX9 := by
  intro ix ci k kd h
  unfold fX9 at h
  split at h
  · cases h; exact ⟨RX9, TX9, 11, rfl, by decide, rfl, rfl, wd_1_204⟩
  · cases h; exact ⟨RX9, TX9, 11, rfl, by decide, rfl, rfl, wd_1_205⟩
  · cases h; exact ⟨RX9, TX9, 11, rfl, by decide, rfl, rfl, wd_1_206⟩
  · cases h; exact ⟨RX9, TX9, 11, rfl, by decide, rfl, rfl, wd_1_207⟩
  · cases h; exact ⟨RX9, TX9, 11, rfl, by decide, rfl, rfl, wd_1_208⟩
  · cases h; exact ⟨RX9, TX9, 11, rfl, by decide, rfl, rfl, wd_1_209⟩
  · cases h; exact ⟨RX9, TX9, 11, rfl, by decide, rfl, rfl, wd_1_210⟩
  · cases h; exact ⟨RX9, TX9, 11, rfl, by decide, rfl, rfl, wd_1_211⟩
  · cases h; exact ⟨RX9, TX9, 11, rfl, by decide, rfl, rfl, wd_1_212⟩
  · cases h; exact ⟨RX9, TX9, 11, rfl, by decide, rfl, rfl, wd_1_213⟩
  · cases h; exact ⟨RX9, TX9, 11, rfl, by decide, rfl, rfl, wd_1_214⟩
  · cases h; exact ⟨RX1, TX1, 5, rfl, by decide, rfl, rfl, wd_1_95⟩
  · cases h; exact ⟨RX6, TX6, 5, rfl, by decide, rfl, rfl, wd_1_118⟩
  · cases h; exact ⟨RX3, TX3, 7, rfl, by decide, rfl, rfl, wd_1_59⟩
  · cases h; exact ⟨RX3, TX3, 7, rfl, by decide, rfl, rfl, wd_1_67⟩
  · cases h
theorem coX9 : pvCoOk "EventClockWorkbench" pvTb kX9 := by
  intro ix v h
  unfold kX9 at h
  cases h
theorem foL : pvFOk "EventClockWorkbenchLaw" pvTb fL := by
  intro ix ci k kd h
  unfold fL at h
  cases h
theorem coL : pvCoOk "EventClockWorkbenchLaw" pvTb kL := by
  intro ix v h
  unfold kL at h
  split at h
  · cases h; exact wd_3_52
  · cases h; exact wd_5_168
  · cases h
theorem foJ6 : pvFOk "java/lang/Integer" pvTb fJ6 := by
  intro ix ci k kd h
  unfold fJ6 at h
  cases h
theorem coJ6 : pvCoOk "java/lang/Integer" pvTb kJ6 := by
  intro ix v h
  unfold kJ6 at h
  split at h
  · cases h; exact wd_5_135
  · cases h; exact wd_5_136
  · cases h; exact wd_5_137
  · cases h
theorem foJ9 : pvFOk "java/lang/Math" pvTb fJ9 := by
  intro ix ci k kd h
  unfold fJ9 at h
  cases h
theorem coJ9 : pvCoOk "java/lang/Math" pvTb kJ9 := by
  intro ix v h
  unfold kJ9 at h
  cases h
theorem cpX0 {rm : Room} (h1 : 1 ≤ rm.frames) (h2 : 8 + (nativeFrameWords "java/lang/System" "arraycopy" 5 + 11) ≤ rm.locals) : ∀ ix, eX0 ix = some 100 ∨ eX0 ix = some 101 → Cond.methodLink "EventClockWorkbench$Automaton" ix arraycopyName ∈ pvTb ∧ Cond.native arraycopyName ∈ pvTb ∧ Cond.static arraycopyName ∈ pvTb ∧ Cond.initialized "java/lang/System" ∈ pvTb ∧ 1 ≤ rm.frames ∧ 8 + (nativeFrameWords "java/lang/System" "arraycopy" 5 + 11) ≤ rm.locals := by
  intro ix h
  unfold eX0 at h
  split at h
  · exact ⟨wd_4_148, wd_3_37, wd_3_36, wd_1_14, h1, h2⟩
  · rcases h with h | h <;> cases h
theorem cpX8 {rm : Room} (h1 : 1 ≤ rm.frames) (h2 : 8 + (nativeFrameWords "java/lang/System" "arraycopy" 5 + 11) ≤ rm.locals) : ∀ ix, eX8 ix = some 100 ∨ eX8 ix = some 101 → Cond.methodLink "EventClockWorkbench$WordCounter" ix arraycopyName ∈ pvTb ∧ Cond.native arraycopyName ∈ pvTb ∧ Cond.static arraycopyName ∈ pvTb ∧ Cond.initialized "java/lang/System" ∈ pvTb ∧ 1 ≤ rm.frames ∧ 8 + (nativeFrameWords "java/lang/System" "arraycopy" 5 + 11) ≤ rm.locals := by
  intro ix h
  unfold eX8 at h
  split at h
  · exact ⟨wd_3_35, wd_3_37, wd_3_36, wd_1_14, h1, h2⟩
  · rcases h with h | h <;> cases h
