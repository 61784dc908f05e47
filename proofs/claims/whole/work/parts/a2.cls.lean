/-! classes: fields, constants, links -/
theorem wsok_X0 : ∀ w ∈ u_ws RX0 TX0 1, w ∈ pvTb := List.forall_mem_cons.mpr ⟨wd_1_37, fun _ h => absurd h List.not_mem_nil⟩
theorem wsok_X1 : ∀ w ∈ u_ws RX1 TX1 5, w ∈ pvTb := List.forall_mem_cons.mpr ⟨wd_1_88, List.forall_mem_cons.mpr ⟨wd_1_90, List.forall_mem_cons.mpr ⟨wd_1_92, List.forall_mem_cons.mpr ⟨wd_1_94, List.forall_mem_cons.mpr ⟨wd_1_96, fun _ h => absurd h List.not_mem_nil⟩⟩⟩⟩⟩
theorem wsok_X2 : ∀ w ∈ u_ws RX2 TX2 5, w ∈ pvTb := List.forall_mem_cons.mpr ⟨wd_1_189, List.forall_mem_cons.mpr ⟨wd_1_191, List.forall_mem_cons.mpr ⟨wd_1_193, List.forall_mem_cons.mpr ⟨wd_1_195, List.forall_mem_cons.mpr ⟨wd_1_197, fun _ h => absurd h List.not_mem_nil⟩⟩⟩⟩⟩
theorem wsok_X3 : ∀ w ∈ u_ws RX3 TX3 7, w ∈ pvTb := List.forall_mem_cons.mpr ⟨wd_1_60, List.forall_mem_cons.mpr ⟨wd_1_62, List.forall_mem_cons.mpr ⟨wd_1_64, List.forall_mem_cons.mpr ⟨wd_1_66, List.forall_mem_cons.mpr ⟨wd_1_68, List.forall_mem_cons.mpr ⟨wd_1_70, List.forall_mem_cons.mpr ⟨wd_1_72, fun _ h => absurd h List.not_mem_nil⟩⟩⟩⟩⟩⟩⟩
theorem wsok_X4 : ∀ w ∈ u_ws RX4 TX4 3, w ∈ pvTb := List.forall_mem_cons.mpr ⟨wd_1_133, List.forall_mem_cons.mpr ⟨wd_1_135, List.forall_mem_cons.mpr ⟨wd_1_137, fun _ h => absurd h List.not_mem_nil⟩⟩⟩
theorem wsok_X5 : ∀ w ∈ u_ws RX5 TX5 5, w ∈ pvTb := List.forall_mem_cons.mpr ⟨wd_1_152, List.forall_mem_cons.mpr ⟨wd_1_154, List.forall_mem_cons.mpr ⟨wd_1_156, List.forall_mem_cons.mpr ⟨wd_1_158, List.forall_mem_cons.mpr ⟨wd_1_160, fun _ h => absurd h List.not_mem_nil⟩⟩⟩⟩⟩
theorem wsok_X6 : ∀ w ∈ u_ws RX6 TX6 5, w ∈ pvTb := List.forall_mem_cons.mpr ⟨wd_1_113, List.forall_mem_cons.mpr ⟨wd_1_115, List.forall_mem_cons.mpr ⟨wd_1_117, List.forall_mem_cons.mpr ⟨wd_1_119, List.forall_mem_cons.mpr ⟨wd_1_121, fun _ h => absurd h List.not_mem_nil⟩⟩⟩⟩⟩
theorem wsok_X8 : ∀ w ∈ u_ws RX8 TX8 2, w ∈ pvTb := List.forall_mem_cons.mpr ⟨wd_1_171, List.forall_mem_cons.mpr ⟨wd_1_173, fun _ h => absurd h List.not_mem_nil⟩⟩
theorem wsok_X9 : ∀ w ∈ u_ws RX9 TX9 11, w ∈ pvTb := List.forall_mem_cons.mpr ⟨wd_1_211, List.forall_mem_cons.mpr ⟨wd_1_213, List.forall_mem_cons.mpr ⟨wd_1_215, List.forall_mem_cons.mpr ⟨wd_1_217, List.forall_mem_cons.mpr ⟨wd_1_219, List.forall_mem_cons.mpr ⟨wd_1_221, List.forall_mem_cons.mpr ⟨wd_1_223, List.forall_mem_cons.mpr ⟨wd_1_225, List.forall_mem_cons.mpr ⟨wd_1_227, List.forall_mem_cons.mpr ⟨wd_1_229, List.forall_mem_cons.mpr ⟨wd_1_231, fun _ h => absurd h List.not_mem_nil⟩⟩⟩⟩⟩⟩⟩⟩⟩⟩⟩
theorem wsok_X10 : ∀ w ∈ u_ws RX10 TX10 31, w ∈ pvTb := List.forall_mem_cons.mpr ⟨wd_5_176, List.forall_mem_cons.mpr ⟨wd_5_178, List.forall_mem_cons.mpr ⟨wd_5_180, List.forall_mem_cons.mpr ⟨wd_5_182, List.forall_mem_cons.mpr ⟨wd_5_184, List.forall_mem_cons.mpr ⟨wd_5_186, List.forall_mem_cons.mpr ⟨wd_5_188, List.forall_mem_cons.mpr ⟨wd_5_190, List.forall_mem_cons.mpr ⟨wd_5_192, List.forall_mem_cons.mpr ⟨wd_5_194, List.forall_mem_cons.mpr ⟨wd_5_196, List.forall_mem_cons.mpr ⟨wd_5_198, List.forall_mem_cons.mpr ⟨wd_5_200, List.forall_mem_cons.mpr ⟨wd_5_202, List.forall_mem_cons.mpr ⟨wd_5_204, List.forall_mem_cons.mpr ⟨wd_5_206, List.forall_mem_cons.mpr ⟨wd_5_208, List.forall_mem_cons.mpr ⟨wd_5_210, List.forall_mem_cons.mpr ⟨wd_5_212, List.forall_mem_cons.mpr ⟨wd_5_214, List.forall_mem_cons.mpr ⟨wd_5_216, List.forall_mem_cons.mpr ⟨wd_5_218, List.forall_mem_cons.mpr ⟨wd_5_220, List.forall_mem_cons.mpr ⟨wd_5_222, List.forall_mem_cons.mpr ⟨wd_5_224, List.forall_mem_cons.mpr ⟨wd_5_226, List.forall_mem_cons.mpr ⟨wd_5_228, List.forall_mem_cons.mpr ⟨wd_5_230, List.forall_mem_cons.mpr ⟨wd_5_232, List.forall_mem_cons.mpr ⟨wd_5_234, List.forall_mem_cons.mpr ⟨wd_5_236, fun _ h => absurd h List.not_mem_nil⟩⟩⟩⟩⟩⟩⟩⟩⟩⟩⟩⟩⟩⟩⟩⟩⟩⟩⟩⟩⟩⟩⟩⟩⟩⟩⟩⟩⟩⟩⟩
theorem pvCl : pvClOk pvTb := by
  intro ci C T N h
  match ci, h with
  | 0, h => cases h; exact ⟨wsok_X0, tyX0, tyX0_ok, nmX0, by decide +kernel, by decide +kernel⟩
  | 1, h => cases h; exact ⟨wsok_X1, tyX1, tyX1_ok, nmX1, by decide +kernel, by decide +kernel⟩
  | 2, h => cases h; exact ⟨wsok_X2, tyX2, tyX2_ok, nmX2, by decide +kernel, by decide +kernel⟩
  | 3, h => cases h; exact ⟨wsok_X3, tyX3, tyX3_ok, nmX3, by decide +kernel, by decide +kernel⟩
  | 4, h => cases h; exact ⟨wsok_X4, tyX4, tyX4_ok, nmX4, by decide +kernel, by decide +kernel⟩
  | 5, h => cases h; exact ⟨wsok_X5, tyX5, tyX5_ok, nmX5, by decide +kernel, by decide +kernel⟩
  | 6, h => cases h; exact ⟨wsok_X6, tyX6, tyX6_ok, nmX6, by decide +kernel, by decide +kernel⟩
  | 7, h => cases h; exact ⟨wsok_X8, tyX8, tyX8_ok, nmX8, by decide +kernel, by decide +kernel⟩
  | 8, h => cases h; exact ⟨wsok_X9, tyX9, tyX9_ok, nmX9, by decide +kernel, by decide +kernel⟩
  | 9, h => cases h; exact ⟨wsok_X10, tyX10, tyX10_ok, nmX10, by decide +kernel, by decide +kernel⟩
  | k + 10, h => simp at h
theorem foX0 : pvFOk "EventClockWorkbench$Automaton" pvTb fX0 := by
  intro ix ci k kd h
  unfold fX0 at h
  split at h
  · cases h; exact ⟨RX0, TX0, 1, rfl, by decide, rfl, rfl, wd_1_36⟩
  · cases h; exact ⟨RX1, TX1, 5, rfl, by decide, rfl, rfl, wd_1_85⟩
  · cases h; exact ⟨RX6, TX6, 5, rfl, by decide, rfl, rfl, wd_1_112⟩
  · cases h
theorem coX0 : pvCoOk "EventClockWorkbench$Automaton" pvTb kX0 := by
  intro ix v h
  unfold kX0 at h
  split at h
  · cases h; exact wd_2_216
  · cases h
theorem foX1 : pvFOk "EventClockWorkbench$GuardText" pvTb fX1 := by
  intro ix ci k kd h
  unfold fX1 at h
  split at h
  · cases h; exact ⟨RX1, TX1, 5, rfl, by decide, rfl, rfl, wd_1_81⟩
  · cases h; exact ⟨RX1, TX1, 5, rfl, by decide, rfl, rfl, wd_1_82⟩
  · cases h; exact ⟨RX1, TX1, 5, rfl, by decide, rfl, rfl, wd_1_83⟩
  · cases h; exact ⟨RX1, TX1, 5, rfl, by decide, rfl, rfl, wd_1_84⟩
  · cases h; exact ⟨RX1, TX1, 5, rfl, by decide, rfl, rfl, wd_1_86⟩
  · cases h
theorem coX1 : pvCoOk "EventClockWorkbench$GuardText" pvTb kX1 := by
  intro ix v h
  unfold kX1 at h
  cases h
theorem foX2 : pvFOk "EventClockWorkbench$History" pvTb fX2 := by
  intro ix ci k kd h
  unfold fX2 at h
  split at h
  · cases h; exact ⟨RX2, TX2, 5, rfl, by decide, rfl, rfl, wd_1_182⟩
  · cases h; exact ⟨RX2, TX2, 5, rfl, by decide, rfl, rfl, wd_1_183⟩
  · cases h; exact ⟨RX2, TX2, 5, rfl, by decide, rfl, rfl, wd_1_184⟩
  · cases h; exact ⟨RX2, TX2, 5, rfl, by decide, rfl, rfl, wd_1_185⟩
  · cases h; exact ⟨RX2, TX2, 5, rfl, by decide, rfl, rfl, wd_1_187⟩
  · cases h
theorem coX2 : pvCoOk "EventClockWorkbench$History" pvTb kX2 := by
  intro ix v h
  unfold kX2 at h
  cases h
theorem foX3 : pvFOk "EventClockWorkbench$Powerset" pvTb fX3 := by
  intro ix ci k kd h
  unfold fX3 at h
  split at h
  · cases h; exact ⟨RX3, TX3, 7, rfl, by decide, rfl, rfl, wd_1_47⟩
  · cases h; exact ⟨RX3, TX3, 7, rfl, by decide, rfl, rfl, wd_1_48⟩
  · cases h; exact ⟨RX3, TX3, 7, rfl, by decide, rfl, rfl, wd_1_49⟩
  · cases h; exact ⟨RX3, TX3, 7, rfl, by decide, rfl, rfl, wd_1_50⟩
  · cases h; exact ⟨RX3, TX3, 7, rfl, by decide, rfl, rfl, wd_1_52⟩
  · cases h; exact ⟨RX3, TX3, 7, rfl, by decide, rfl, rfl, wd_1_55⟩
  · cases h; exact ⟨RX3, TX3, 7, rfl, by decide, rfl, rfl, wd_1_58⟩
  · cases h
theorem coX3 : pvCoOk "EventClockWorkbench$Powerset" pvTb kX3 := by
  intro ix v h
  unfold kX3 at h
  cases h
theorem foX4 : pvFOk "EventClockWorkbench$Runs" pvTb fX4 := by
  intro ix ci k kd h
  unfold fX4 at h
  split at h
  · cases h; exact ⟨RX4, TX4, 3, rfl, by decide, rfl, rfl, wd_1_130⟩
  · cases h; exact ⟨RX4, TX4, 3, rfl, by decide, rfl, rfl, wd_1_131⟩
  · cases h; exact ⟨RX4, TX4, 3, rfl, by decide, rfl, rfl, wd_1_132⟩
  · cases h; exact ⟨RX6, TX6, 5, rfl, by decide, rfl, rfl, wd_1_110⟩
  · cases h
theorem coX4 : pvCoOk "EventClockWorkbench$Runs" pvTb kX4 := by
  intro ix v h
  unfold kX4 at h
  cases h
theorem foX5 : pvFOk "EventClockWorkbench$Search" pvTb fX5 := by
  intro ix ci k kd h
  unfold fX5 at h
  split at h
  · cases h; exact ⟨RX5, TX5, 5, rfl, by decide, rfl, rfl, wd_1_147⟩
  · cases h; exact ⟨RX5, TX5, 5, rfl, by decide, rfl, rfl, wd_1_148⟩
  · cases h; exact ⟨RX5, TX5, 5, rfl, by decide, rfl, rfl, wd_1_149⟩
  · cases h; exact ⟨RX5, TX5, 5, rfl, by decide, rfl, rfl, wd_1_150⟩
  · cases h; exact ⟨RX5, TX5, 5, rfl, by decide, rfl, rfl, wd_1_151⟩
  · cases h; exact ⟨RX3, TX3, 7, rfl, by decide, rfl, rfl, wd_1_54⟩
  · cases h; exact ⟨RX3, TX3, 7, rfl, by decide, rfl, rfl, wd_1_57⟩
  · cases h
theorem coX5 : pvCoOk "EventClockWorkbench$Search" pvTb kX5 := by
  intro ix v h
  unfold kX5 at h
  cases h
theorem foX6 : pvFOk "EventClockWorkbench$TimedWord" pvTb fX6 := by
  intro ix ci k kd h
  unfold fX6 at h
  split at h
  · cases h; exact ⟨RX6, TX6, 5, rfl, by decide, rfl, rfl, wd_1_105⟩
  · cases h; exact ⟨RX6, TX6, 5, rfl, by decide, rfl, rfl, wd_1_106⟩
  · cases h; exact ⟨RX6, TX6, 5, rfl, by decide, rfl, rfl, wd_1_107⟩
  · cases h; exact ⟨RX6, TX6, 5, rfl, by decide, rfl, rfl, wd_1_108⟩
  · cases h; exact ⟨RX6, TX6, 5, rfl, by decide, rfl, rfl, wd_1_109⟩
  · cases h
theorem coX6 : pvCoOk "EventClockWorkbench$TimedWord" pvTb kX6 := by
  intro ix v h
  unfold kX6 at h
  cases h
theorem foX7 : pvFOk "EventClockWorkbench$Values" pvTb fX7 := by
  intro ix ci k kd h
  unfold fX7 at h
  cases h
theorem coX7 : pvCoOk "EventClockWorkbench$Values" pvTb kX7 := by
  intro ix v h
  unfold kX7 at h
  split at h
  · cases h; exact wd_2_239
  · cases h
theorem foX8 : pvFOk "EventClockWorkbench$WordCounter" pvTb fX8 := by
  intro ix ci k kd h
  unfold fX8 at h
  split at h
  · cases h; exact ⟨RX8, TX8, 2, rfl, by decide, rfl, rfl, wd_1_169⟩
  · cases h; exact ⟨RX8, TX8, 2, rfl, by decide, rfl, rfl, wd_1_170⟩
  · cases h; exact ⟨RX3, TX3, 7, rfl, by decide, rfl, rfl, wd_1_53⟩
  · cases h; exact ⟨RX3, TX3, 7, rfl, by decide, rfl, rfl, wd_1_56⟩
  · cases h
theorem coX8 : pvCoOk "EventClockWorkbench$WordCounter" pvTb kX8 := by
  intro ix v h
  unfold kX8 at h
  split at h
  · cases h; exact wd_5_93
  · cases h
theorem foX9 : pvFOk "EventClockWorkbench" pvTb fX9 := by
  intro ix ci k kd h
  unfold fX9 at h
  split at h
  · cases h; exact ⟨RX9, TX9, 11, rfl, by decide, rfl, rfl, wd_1_200⟩
  · cases h; exact ⟨RX9, TX9, 11, rfl, by decide, rfl, rfl, wd_1_201⟩
  · cases h; exact ⟨RX9, TX9, 11, rfl, by decide, rfl, rfl, wd_1_202⟩
  · cases h; exact ⟨RX9, TX9, 11, rfl, by decide, rfl, rfl, wd_1_203⟩
  · cases h; exact ⟨RX9, TX9, 11, rfl, by decide, rfl, rfl, wd_1_204⟩
  · cases h; exact ⟨RX9, TX9, 11, rfl, by decide, rfl, rfl, wd_1_205⟩
  · cases h; exact ⟨RX9, TX9, 11, rfl, by decide, rfl, rfl, wd_1_206⟩
  · cases h; exact ⟨RX9, TX9, 11, rfl, by decide, rfl, rfl, wd_1_207⟩
  · cases h; exact ⟨RX9, TX9, 11, rfl, by decide, rfl, rfl, wd_1_208⟩
  · cases h; exact ⟨RX9, TX9, 11, rfl, by decide, rfl, rfl, wd_1_209⟩
  · cases h; exact ⟨RX9, TX9, 11, rfl, by decide, rfl, rfl, wd_1_210⟩
  · cases h; exact ⟨RX1, TX1, 5, rfl, by decide, rfl, rfl, wd_1_87⟩
  · cases h; exact ⟨RX6, TX6, 5, rfl, by decide, rfl, rfl, wd_1_111⟩
  · cases h; exact ⟨RX3, TX3, 7, rfl, by decide, rfl, rfl, wd_1_51⟩
  · cases h; exact ⟨RX2, TX2, 5, rfl, by decide, rfl, rfl, wd_1_186⟩
  · cases h; exact ⟨RX2, TX2, 5, rfl, by decide, rfl, rfl, wd_1_188⟩
  · cases h; exact ⟨RX3, TX3, 7, rfl, by decide, rfl, rfl, wd_1_59⟩
  · cases h
theorem coX9 : pvCoOk "EventClockWorkbench" pvTb kX9 := by
  intro ix v h
  unfold kX9 at h
  cases h
theorem foX10 : pvFOk "EventClockWorkbenchModel" pvTb fX10 := by
  intro ix ci k kd h
  unfold fX10 at h
  split at h
  · cases h; exact ⟨RX10, TX10, 31, rfl, by decide, rfl, rfl, wd_5_145⟩
  · cases h; exact ⟨RX10, TX10, 31, rfl, by decide, rfl, rfl, wd_5_146⟩
  · cases h; exact ⟨RX10, TX10, 31, rfl, by decide, rfl, rfl, wd_5_147⟩
  · cases h; exact ⟨RX10, TX10, 31, rfl, by decide, rfl, rfl, wd_5_150⟩
  · cases h; exact ⟨RX10, TX10, 31, rfl, by decide, rfl, rfl, wd_5_151⟩
  · cases h; exact ⟨RX10, TX10, 31, rfl, by decide, rfl, rfl, wd_5_154⟩
  · cases h; exact ⟨RX10, TX10, 31, rfl, by decide, rfl, rfl, wd_5_157⟩
  · cases h; exact ⟨RX10, TX10, 31, rfl, by decide, rfl, rfl, wd_5_158⟩
  · cases h; exact ⟨RX10, TX10, 31, rfl, by decide, rfl, rfl, wd_5_160⟩
  · cases h; exact ⟨RX10, TX10, 31, rfl, by decide, rfl, rfl, wd_5_161⟩
  · cases h; exact ⟨RX10, TX10, 31, rfl, by decide, rfl, rfl, wd_5_162⟩
  · cases h; exact ⟨RX10, TX10, 31, rfl, by decide, rfl, rfl, wd_5_164⟩
  · cases h; exact ⟨RX10, TX10, 31, rfl, by decide, rfl, rfl, wd_5_165⟩
  · cases h; exact ⟨RX10, TX10, 31, rfl, by decide, rfl, rfl, wd_5_167⟩
  · cases h; exact ⟨RX10, TX10, 31, rfl, by decide, rfl, rfl, wd_5_168⟩
  · cases h; exact ⟨RX10, TX10, 31, rfl, by decide, rfl, rfl, wd_5_169⟩
  · cases h; exact ⟨RX10, TX10, 31, rfl, by decide, rfl, rfl, wd_5_170⟩
  · cases h; exact ⟨RX10, TX10, 31, rfl, by decide, rfl, rfl, wd_5_174⟩
  · cases h; exact ⟨RX10, TX10, 31, rfl, by decide, rfl, rfl, wd_5_175⟩
  · cases h; exact ⟨RX10, TX10, 31, rfl, by decide, rfl, rfl, wd_5_153⟩
  · cases h; exact ⟨RX10, TX10, 31, rfl, by decide, rfl, rfl, wd_5_148⟩
  · cases h; exact ⟨RX10, TX10, 31, rfl, by decide, rfl, rfl, wd_5_149⟩
  · cases h; exact ⟨RX10, TX10, 31, rfl, by decide, rfl, rfl, wd_5_155⟩
  · cases h; exact ⟨RX10, TX10, 31, rfl, by decide, rfl, rfl, wd_5_156⟩
  · cases h; exact ⟨RX10, TX10, 31, rfl, by decide, rfl, rfl, wd_5_159⟩
  · cases h; exact ⟨RX10, TX10, 31, rfl, by decide, rfl, rfl, wd_5_152⟩
  · cases h; exact ⟨RX10, TX10, 31, rfl, by decide, rfl, rfl, wd_5_163⟩
  · cases h; exact ⟨RX10, TX10, 31, rfl, by decide, rfl, rfl, wd_5_166⟩
  · cases h; exact ⟨RX10, TX10, 31, rfl, by decide, rfl, rfl, wd_5_173⟩
  · cases h; exact ⟨RX10, TX10, 31, rfl, by decide, rfl, rfl, wd_5_171⟩
  · cases h; exact ⟨RX10, TX10, 31, rfl, by decide, rfl, rfl, wd_5_172⟩
  · cases h
theorem coX10 : pvCoOk "EventClockWorkbenchModel" pvTb kX10 := by
  intro ix v h
  unfold kX10 at h
  split at h
  · cases h; exact wd_7_95
  · cases h
theorem foL : pvFOk "EventClockWorkbenchLaw" pvTb fL := by
  intro ix ci k kd h
  unfold fL at h
  cases h
theorem coL : pvCoOk "EventClockWorkbenchLaw" pvTb kL := by
  intro ix v h
  unfold kL at h
  cases h
theorem foJ6 : pvFOk "java/lang/Integer" pvTb fJ6 := by
  intro ix ci k kd h
  unfold fJ6 at h
  cases h
theorem coJ6 : pvCoOk "java/lang/Integer" pvTb kJ6 := by
  intro ix v h
  unfold kJ6 at h
  split at h
  · cases h; exact wd_3_117
  · cases h; exact wd_3_118
  · cases h; exact wd_3_119
  · cases h
theorem foJ9 : pvFOk "java/lang/Math" pvTb fJ9 := by
  intro ix ci k kd h
  unfold fJ9 at h
  cases h
theorem coJ9 : pvCoOk "java/lang/Math" pvTb kJ9 := by
  intro ix v h
  unfold kJ9 at h
  cases h
theorem cpX0 {rm : Room} (h1 : 1 ≤ rm.frames) (h2 : 8 + (nativeFrameWords "java/lang/System" "arraycopy" 5 + 11) ≤ rm.locals) : ∀ ix, eX0 ix = some 100 ∨ eX0 ix = some 101 → Cond.methodLink "EventClockWorkbench$Automaton" ix arraycopyName ∈ pvTb ∧ Cond.native arraycopyName ∈ pvTb ∧ Cond.static arraycopyName ∈ pvTb ∧ Cond.initialized "java/lang/System" ∈ pvTb ∧ 1 ≤ rm.frames ∧ 8 + (nativeFrameWords "java/lang/System" "arraycopy" 5 + 11) ≤ rm.locals := by
  intro ix h
  unfold eX0 at h
  split at h
  · exact ⟨wd_2_25, wd_2_27, wd_2_26, wd_1_17, h1, h2⟩
  · rcases h with h | h <;> cases h
theorem cpX8 {rm : Room} (h1 : 1 ≤ rm.frames) (h2 : 8 + (nativeFrameWords "java/lang/System" "arraycopy" 5 + 11) ≤ rm.locals) : ∀ ix, eX8 ix = some 100 ∨ eX8 ix = some 101 → Cond.methodLink "EventClockWorkbench$WordCounter" ix arraycopyName ∈ pvTb ∧ Cond.native arraycopyName ∈ pvTb ∧ Cond.static arraycopyName ∈ pvTb ∧ Cond.initialized "java/lang/System" ∈ pvTb ∧ 1 ≤ rm.frames ∧ 8 + (nativeFrameWords "java/lang/System" "arraycopy" 5 + 11) ≤ rm.locals := by
  intro ix h
  unfold eX8 at h
  split at h
  · exact ⟨wd_5_82, wd_2_27, wd_2_26, wd_1_17, h1, h2⟩
  · rcases h with h | h <;> cases h
