/-! contracts over the machine, 3 -/
theorem pnX6_delayAt : pvPn yX6_delayAt = some 1 := by decide +kernel
theorem caX6_delayAt {l : Launch} (hf : l.stackTraces = false) : pvCaOk l mX6_delayAt "EventClockWorkbench$TimedWord" pvTb 58 aX6_delayAt := by
  refine pvCaOk_i fun ix n b ci co C h => ?_
  unfold aX6_delayAt at h
  split at h
  · cases h; exact pvCe_NS (metNX9_isIndex hf) rfl wd_1_1 rfl (List.mem_of_getElem? (i := 3) rfl) wd_2_23 pnX9_isIndex wd_2_24
  · cases h
set_option maxRecDepth 100000 in
theorem chX6_delayAt : ∀ pc, pvChain cX6_delayAt pc (bX6_delayAt pc) := by
  intro pc
  unfold bX6_delayAt
  split <;> first | exact True.intro | exact pvChain_of (by decide +kernel)
theorem frX6_delayAt : ∀ pc, (bX6_delayAt pc).all (fun q => pvFrB eX6 q.1) = true := by
  intro pc
  unfold bX6_delayAt
  split <;> rfl
theorem metX6_delayAt {l : Launch} (hf : l.stackTraces = false) : pvMet l yX6_delayAt (Cond.code yX6_delayAt cX6_delayAt 2 (some .int) :: pvTb) mX6_delayAt C_X6_delayAt :=
  pvMet_of hf (y := yX6_delayAt) plX6 pvTb_g coX6 foX6 pvCl (caX6_delayAt hf) pvExOk_0 (fun ix h => by rcases h with h | h <;> cases (show (none : Option Nat) = some _ from h)) ⟨rfl, rfl⟩ chX6_delayAt (pvOkM_ex okX6_delayAt frX6_delayAt)
theorem pnX7_writtenDigit : pvPn yX7_writtenDigit = some 1 := by decide +kernel
theorem caX7_writtenDigit {l : Launch} (hf : l.stackTraces = false) : pvCaOk l mX7_writtenDigit "EventClockWorkbench$Values" pvTb 58 aX7_writtenDigit := by
  exact fun ix n b ci co C h => nomatch (show (none : Option (Nat × Bool × Nat × Nat × pvC)) = some (n, b, ci, co, C) from h)
set_option maxRecDepth 100000 in
theorem chX7_writtenDigit : ∀ pc, pvChain cX7_writtenDigit pc (bX7_writtenDigit pc) := by
  intro pc
  unfold bX7_writtenDigit
  split <;> first | exact True.intro | exact pvChain_of (by decide +kernel)
theorem frX7_writtenDigit : ∀ pc, (bX7_writtenDigit pc).all (fun q => pvFrB eX7 q.1) = true := by
  intro pc
  unfold bX7_writtenDigit
  split <;> rfl
theorem metX7_writtenDigit {l : Launch} (hf : l.stackTraces = false) : pvMet l yX7_writtenDigit (Cond.code yX7_writtenDigit cX7_writtenDigit 1 (some .int) :: pvTb) mX7_writtenDigit C_X7_writtenDigit :=
  pvMet_of hf (y := yX7_writtenDigit) plX7 pvTb_g coX7 foX7 pvCl (caX7_writtenDigit hf) pvExOk_0 (fun ix h => by rcases h with h | h <;> cases (show (none : Option Nat) = some _ from h)) ⟨rfl, rfl⟩ chX7_writtenDigit (pvOkM_ex okX7_writtenDigit frX7_writtenDigit)
theorem pnX7_written : pvPn yX7_written = some 1 := by decide +kernel
theorem caX7_written {l : Launch} (hf : l.stackTraces = false) : pvCaOk l mX7_written "EventClockWorkbench$Values" pvTb 58 aX7_written := by
  refine pvCaOk_i fun ix n b ci co C h => ?_
  unfold aX7_written at h
  split at h
  · cases h; exact pvCe_S (metX7_writtenDigit hf) rfl wd_1_19 rfl wd_3_170 wd_3_171 pnX7_writtenDigit wd_3_172
  · cases h
set_option maxRecDepth 100000 in
theorem chX7_written : ∀ pc, pvChain cX7_written pc (bX7_written pc) := by
  intro pc
  unfold bX7_written
  split <;> first | exact True.intro | exact pvChain_of (by decide +kernel)
theorem frX7_written : ∀ pc, (bX7_written pc).all (fun q => pvFrB eX7 q.1) = true := by
  intro pc
  unfold bX7_written
  split <;> rfl
theorem metX7_written {l : Launch} (hf : l.stackTraces = false) : pvMet l yX7_written (Cond.code yX7_written cX7_written 1 (some .int) :: pvTb) mX7_written C_X7_written :=
  pvMet_of hf (y := yX7_written) plX7 pvTb_g coX7 foX7 pvCl (caX7_written hf) pvExOk_0 (fun ix h => by rcases h with h | h <;> cases (show (none : Option Nat) = some _ from h)) ⟨rfl, rfl⟩ chX7_written (pvOkM_ex okX7_written frX7_written)
theorem pnX8_countAll : pvPn yX8_countAll = some 1 := by decide +kernel
theorem caX8_countAll {l : Launch} (hf : l.stackTraces = false) : pvCaOk l mX8_countAll "EventClockWorkbench$WordCounter" pvTb 58 aX8_countAll := by
  exact fun ix n b ci co C h => nomatch (show (none : Option (Nat × Bool × Nat × Nat × pvC)) = some (n, b, ci, co, C) from h)
set_option maxRecDepth 100000 in
theorem chX8_countAll : ∀ pc, pvChain cX8_countAll pc (bX8_countAll pc) := by
  intro pc
  unfold bX8_countAll
  split <;> first | exact True.intro | exact pvChain_of (by decide +kernel)
theorem frX8_countAll : ∀ pc, (bX8_countAll pc).all (fun q => pvFrB eX8 q.1) = true := by
  intro pc
  unfold bX8_countAll
  split <;> rfl
theorem metX8_countAll {l : Launch} (hf : l.stackTraces = false) : pvMet l yX8_countAll (Cond.code yX8_countAll cX8_countAll 4 (some .long) :: pvTb) mX8_countAll C_X8_countAll :=
  pvMet_of hf (y := yX8_countAll) plX8 pvTb_g coX8 foX8 pvCl (caX8_countAll hf) pvExOk_0 (fun ix h => by rcases h with h | h <;> cases (show (none : Option Nat) = some _ from h)) ⟨rfl, rfl⟩ chX8_countAll (pvOkM_ex okX8_countAll frX8_countAll)
theorem pnX8_addTo : pvPn yX8_addTo = some 3 := by decide +kernel
theorem caX8_addTo {l : Launch} (hf : l.stackTraces = false) : pvCaOk l mX8_addTo "EventClockWorkbench$WordCounter" pvTb 58 aX8_addTo := by
  refine pvCaOk_i fun ix n b ci co C h => ?_
  unfold aX8_addTo at h
  split at h
  · cases h; exact pvCe_NS (metNX9_isIndex hf) rfl wd_1_1 rfl (List.mem_of_getElem? (i := 10) rfl) wd_2_23 pnX9_isIndex wd_2_24
  · cases h
set_option maxRecDepth 100000 in
theorem chX8_addTo : ∀ pc, pvChain cX8_addTo pc (bX8_addTo pc) := by
  intro pc
  unfold bX8_addTo
  split <;> first | exact True.intro | exact pvChain_of (by decide +kernel)
theorem frX8_addTo : ∀ pc, (bX8_addTo pc).all (fun q => pvFrB eX8 q.1) = true := by
  intro pc
  unfold bX8_addTo
  split <;> rfl
theorem metX8_addTo {l : Launch} (hf : l.stackTraces = false) : pvMet l yX8_addTo (Cond.code yX8_addTo cX8_addTo 4 none :: pvTb) mX8_addTo C_X8_addTo :=
  pvMet_of hf (y := yX8_addTo) plX8 pvTb_g coX8 foX8 pvCl (caX8_addTo hf) pvExOk_0 (fun ix h => by rcases h with h | h <;> cases (show (none : Option Nat) = some _ from h)) ⟨rfl, rfl⟩ chX8_addTo (pvOkM_ex okX8_addTo frX8_addTo)
theorem pnX8_spread : pvPn yX8_spread = some 3 := by decide +kernel
theorem caX8_spread {l : Launch} (hf : l.stackTraces = false) : pvCaOk l mX8_spread "EventClockWorkbench$WordCounter" pvTb 58 aX8_spread := by
  refine pvCaOk_i fun ix n b ci co C h => ?_
  unfold aX8_spread at h
  split at h
  · cases h; exact pvCe_S (metX8_addTo hf) rfl wd_1_8 rfl wd_5_67 wd_5_68 pnX8_addTo wd_5_69
  · cases h; exact pvCe_NS (metNX9_isIndex hf) rfl wd_1_1 rfl (List.mem_of_getElem? (i := 10) rfl) wd_2_23 pnX9_isIndex wd_2_24
  · cases h; exact pvCe_S (metX7_later hf) rfl wd_1_19 rfl wd_5_79 wd_3_133 pnX7_later wd_3_134
  · cases h; exact pvCe_V (k := 3) (T := TX3) (N := 7) (metX3_successor hf) rfl wd_1_3 rfl wd_5_80 wd_4_114 wd_4_115 pnX3_successor rfl wd_4_116
  · cases h; exact pvCe_S (metX7_withZero hf) rfl wd_1_19 rfl wd_5_81 wd_3_139 pnX7_withZero wd_3_140
  · cases h
set_option maxRecDepth 100000 in
theorem chX8_spread : ∀ pc, pvChain cX8_spread pc (bX8_spread pc) := by
  intro pc
  unfold bX8_spread
  split <;> first | exact True.intro | exact pvChain_of (by decide +kernel)
theorem frX8_spread : ∀ pc, (bX8_spread pc).all (fun q => pvFrB eX8 q.1) = true := by
  intro pc
  unfold bX8_spread
  split <;> rfl
theorem metX8_spread {l : Launch} (hf : l.stackTraces = false) : pvMet l yX8_spread (Cond.code yX8_spread cX8_spread 10 none :: pvTb) mX8_spread C_X8_spread :=
  pvMet_of hf (y := yX8_spread) plX8 pvTb_g coX8 foX8 pvCl (caX8_spread hf) pvExOk_0 (fun ix h => by rcases h with h | h <;> cases (show (none : Option Nat) = some _ from h)) ⟨rfl, rfl⟩ chX8_spread (pvOkM_ex okX8_spread frX8_spread)
theorem pnX8_readEvent : pvPn yX8_readEvent = some 2 := by decide +kernel
theorem caX8_readEvent {l : Launch} (hf : l.stackTraces = false) : pvCaOk l mX8_readEvent "EventClockWorkbench$WordCounter" pvTb 58 aX8_readEvent := by
  refine pvCaOk_i fun ix n b ci co C h => ?_
  unfold aX8_readEvent at h
  split at h
  · cases h; exact pvCe_V (k := 3) (T := TX8) (N := 2) (metX8_spread hf) rfl wd_1_8 rfl wd_5_75 wd_5_77 ps_3_4 pnX8_spread rfl wd_5_78
  · cases h
set_option maxRecDepth 100000 in
theorem chX8_readEvent : ∀ pc, pvChain cX8_readEvent pc (bX8_readEvent pc) := by
  intro pc
  unfold bX8_readEvent
  split <;> first | exact True.intro | exact pvChain_of (by decide +kernel)
theorem metX8_readEvent {l : Launch} (hf : l.stackTraces = false) : pvMet l yX8_readEvent (Cond.code yX8_readEvent cX8_readEvent 4 none :: pvTb) mX8_readEvent C_X8_readEvent :=
  pvMet_of hf (y := yX8_readEvent) plX8 pvTb_g coX8 foX8 pvCl (caX8_readEvent hf) (fun ix ic k pc h h4 => by exfalso; unfold eX8 at h; split at h <;> cases h <;> omega) (cpX8 (by decide) (by decide)) ⟨rfl, rfl⟩ chX8_readEvent okX8_readEvent
theorem pnX8_count : pvPn yX8_count = some 3 := by decide +kernel
theorem caX8_count {l : Launch} (hf : l.stackTraces = false) : pvCaOk l mX8_count "EventClockWorkbench$WordCounter" pvTb 58 aX8_count := by
  refine pvCaOk_i fun ix n b ci co C h => ?_
  unfold aX8_count at h
  split at h
  · cases h; exact pvCe_S (metX8_addTo hf) rfl wd_1_8 rfl wd_5_67 wd_5_68 pnX8_addTo wd_5_69
  · cases h; exact pvCe_V (k := 2) (T := TX8) (N := 2) (metX8_readEvent hf) rfl wd_1_8 rfl wd_5_71 wd_5_73 ps_3_3 pnX8_readEvent rfl wd_5_74
  · cases h
set_option maxRecDepth 100000 in
theorem chX8_count : ∀ pc, pvChain cX8_count pc (bX8_count pc) := by
  intro pc
  unfold bX8_count
  split <;> first | exact True.intro | exact pvChain_of (by decide +kernel)
theorem frX8_count : ∀ pc, (bX8_count pc).all (fun q => pvFrB eX8 q.1) = true := by
  intro pc
  unfold bX8_count
  split <;> rfl
theorem metX8_count {l : Launch} (hf : l.stackTraces = false) : pvMet l yX8_count (Cond.code yX8_count cX8_count 7 (some .long) :: pvTb) mX8_count C_X8_count :=
  pvMet_of hf (y := yX8_count) plX8 pvTb_g coX8 foX8 pvCl (caX8_count hf) pvExOk_0 (fun ix h => by rcases h with h | h <;> cases (show (none : Option Nat) = some _ from h)) ⟨rfl, rfl⟩ chX8_count (pvOkM_ex okX8_count frX8_count)
theorem pnX9_requireArgument : pvPn yX9_requireArgument = some 1 := by decide +kernel
theorem caX9_requireArgument {l : Launch} (hf : l.stackTraces = false) : pvCaOk l mX9_requireArgument "EventClockWorkbench" pvTb 58 aX9_requireArgument := by
  exact fun ix n b ci co C h => nomatch (show (none : Option (Nat × Bool × Nat × Nat × pvC)) = some (n, b, ci, co, C) from h)
set_option maxRecDepth 100000 in
theorem chX9_requireArgument : ∀ pc, pvChain cX9_requireArgument pc (bX9_requireArgument pc) := by
  intro pc
  unfold bX9_requireArgument
  split <;> first | exact True.intro | exact pvChain_of (by decide +kernel)
theorem nwX9_requireArgument : ∀ pc ix, decode cX9_requireArgument pc = .ok (.new ix, 3) → pc = 4 ∧ ix = 309 := by
  intro pc ix h
  by_cases hs : pc < cX9_requireArgument.size
  · have hq := List.all_eq_true.mp (show (List.range cX9_requireArgument.size).all (fun q => match decode cX9_requireArgument q with | .ok (.new j, _) => decide (q = 4 ∧ j = 309) | _ => true) = true from by decide +kernel) pc (List.mem_range.mpr hs)
    rw [h] at hq
    exact of_decide_eq_true hq
  · exact absurd h (dec_oob (by omega))
theorem exX9_requireArgument : pvExOk "EventClockWorkbench" cX9_requireArgument pvTb eX9 mX9_requireArgument := by
  intro ix ic k pc hE hk hd hd4
  obtain ⟨rfl, rfl⟩ := nwX9_requireArgument pc ix hd
  rw [show decode cX9_requireArgument (4 + 4) = .ok (.invokespecial 311, 3) from by decide +kernel] at hd4
  cases hd4
  cases (show some 1 = some k from hE)
  refine ⟨wd_2_43, wd_1_14, ?_, ?_, ?_, by decide, by decide⟩
  · intro w hw
    rw [show (vx_at0 "EventClockWorkbench" 311 (pvXn 1) ["java/lang/RuntimeException", "java/lang/Exception"]).filter goodWord = ([(Jvm.Cond.initialized "java/lang/Throwable"), (Jvm.Cond.superclass "java/lang/Throwable" "java/lang/Object"), (Jvm.Cond.instanceMethod ({ cls := "java/lang/Throwable", name := "fillInStackTrace", desc := "()Ljava/lang/Throwable;" } : Jvm.MethodName)), (Jvm.Cond.codeSync ({ cls := "java/lang/Throwable", name := "fillInStackTrace", desc := "()Ljava/lang/Throwable;" } : Jvm.MethodName) prog_22_method_18_code (1 : Nat) (Option.some (Jvm.ClassFile.FieldType.object "java/lang/Throwable"))), (Jvm.Cond.instanceMethod ({ cls := "java/lang/Throwable", name := "fillInStackTrace", desc := "(I)Ljava/lang/Throwable;" } : Jvm.MethodName)), (Jvm.Cond.native ({ cls := "java/lang/Throwable", name := "fillInStackTrace", desc := "(I)Ljava/lang/Throwable;" } : Jvm.MethodName)), (Jvm.Cond.instanceMethod ({ cls := "java/lang/Throwable", name := "<init>", desc := "()V" } : Jvm.MethodName)), (Jvm.Cond.code ({ cls := "java/lang/Throwable", name := "<init>", desc := "()V" } : Jvm.MethodName) prog_22_method_1_code (1 : Nat) (Option.none : Option Jvm.ClassFile.FieldType)), (Jvm.Cond.instanceMethod ({ cls := "java/lang/Object", name := "<init>", desc := "()V" } : Jvm.MethodName)), (Jvm.Cond.code ({ cls := "java/lang/Object", name := "<init>", desc := "()V" } : Jvm.MethodName) object_method_1_code (1 : Nat) (Option.none : Option Jvm.ClassFile.FieldType)), (Jvm.Cond.methodLink "java/lang/Throwable" (1 : Nat) ({ cls := "java/lang/Object", name := "<init>", desc := "()V" } : Jvm.MethodName)), (Jvm.Cond.methodLink "java/lang/Throwable" (27 : Nat) ({ cls := "java/lang/Throwable", name := "fillInStackTrace", desc := "()Ljava/lang/Throwable;" } : Jvm.MethodName)), (Jvm.Cond.methodLink "java/lang/Throwable" (202 : Nat) ({ cls := "java/lang/Throwable", name := "fillInStackTrace", desc := "(I)Ljava/lang/Throwable;" } : Jvm.MethodName)), (Jvm.Cond.fieldLink "java/lang/Throwable" (7 : Nat) "java/lang/Throwable" "cause" "Ljava/lang/Throwable;"), (Jvm.Cond.lays "java/lang/Throwable" "java/lang/Throwable" "cause" "Ljava/lang/Throwable;"), (Jvm.Cond.fieldLink "java/lang/Throwable" (17 : Nat) "java/lang/Throwable" "stackTrace" "[Ljava/lang/StackTraceElement;"), (Jvm.Cond.lays "java/lang/Throwable" "java/lang/Throwable" "stackTrace" "[Ljava/lang/StackTraceElement;"), (Jvm.Cond.fieldLink "java/lang/Throwable" (24 : Nat) "java/lang/Throwable" "suppressedExceptions" "Ljava/util/List;"), (Jvm.Cond.lays "java/lang/Throwable" "java/lang/Throwable" "suppressedExceptions" "Ljava/util/List;"), (Jvm.Cond.fieldLink "java/lang/Throwable" (13 : Nat) "java/lang/Throwable" "UNASSIGNED_STACK" "[Ljava/lang/StackTraceElement;"), (Jvm.Cond.fieldLink "java/lang/Throwable" (20 : Nat) "java/lang/Throwable" "SUPPRESSED_SENTINEL" "Ljava/util/List;"), (Jvm.Cond.lays "java/lang/Throwable" "java/lang/Throwable" "detailMessage" "Ljava/lang/String;"), (Jvm.Cond.instanceMethod ({ cls := "java/lang/IllegalArgumentException", name := "<init>", desc := "()V" } : Jvm.MethodName)), (Jvm.Cond.code ({ cls := "java/lang/IllegalArgumentException", name := "<init>", desc := "()V" } : Jvm.MethodName) prog_15_method_1_code (1 : Nat) (Option.none : Option Jvm.ClassFile.FieldType)), (Jvm.Cond.methodLink "java/lang/IllegalArgumentException" (1 : Nat) ({ cls := "java/lang/RuntimeException", name := "<init>", desc := "()V" } : Jvm.MethodName)), (Jvm.Cond.instanceMethod ({ cls := "java/lang/RuntimeException", name := "<init>", desc := "()V" } : Jvm.MethodName)), (Jvm.Cond.instanceMethod ({ cls := "java/lang/RuntimeException", name := "<init>", desc := "()V" } : Jvm.MethodName)), (Jvm.Cond.code ({ cls := "java/lang/RuntimeException", name := "<init>", desc := "()V" } : Jvm.MethodName) prog_20_method_1_code (1 : Nat) (Option.none : Option Jvm.ClassFile.FieldType)), (Jvm.Cond.methodLink "java/lang/RuntimeException" (1 : Nat) ({ cls := "java/lang/Exception", name := "<init>", desc := "()V" } : Jvm.MethodName)), (Jvm.Cond.instanceMethod ({ cls := "java/lang/Exception", name := "<init>", desc := "()V" } : Jvm.MethodName)), (Jvm.Cond.instanceMethod ({ cls := "java/lang/Exception", name := "<init>", desc := "()V" } : Jvm.MethodName)), (Jvm.Cond.code ({ cls := "java/lang/Exception", name := "<init>", desc := "()V" } : Jvm.MethodName) prog_14_method_1_code (1 : Nat) (Option.none : Option Jvm.ClassFile.FieldType)), (Jvm.Cond.methodLink "java/lang/Exception" (1 : Nat) ({ cls := "java/lang/Throwable", name := "<init>", desc := "()V" } : Jvm.MethodName)), (Jvm.Cond.instanceMethod ({ cls := "java/lang/Throwable", name := "<init>", desc := "()V" } : Jvm.MethodName)), (Jvm.Cond.methodLink "EventClockWorkbench" (311 : Nat) ({ cls := "java/lang/IllegalArgumentException", name := "<init>", desc := "()V" } : Jvm.MethodName)), (Jvm.Cond.instantiable "java/lang/IllegalArgumentException" (6 : Nat)), (Jvm.Cond.selects "java/lang/IllegalArgumentException" ({ cls := "java/lang/Throwable", name := "fillInStackTrace", desc := "(I)Ljava/lang/Throwable;" } : Jvm.MethodName) ({ cls := "java/lang/Throwable", name := "fillInStackTrace", desc := "(I)Ljava/lang/Throwable;" } : Jvm.MethodName)), (Jvm.Cond.selects "java/lang/IllegalArgumentException" ({ cls := "java/lang/Throwable", name := "fillInStackTrace", desc := "()Ljava/lang/Throwable;" } : Jvm.MethodName) ({ cls := "java/lang/Throwable", name := "fillInStackTrace", desc := "()Ljava/lang/Throwable;" } : Jvm.MethodName)), (Jvm.Cond.lays "java/lang/IllegalArgumentException" "java/lang/Throwable" "cause" "Ljava/lang/Throwable;"), (Jvm.Cond.lays "java/lang/IllegalArgumentException" "java/lang/Throwable" "stackTrace" "[Ljava/lang/StackTraceElement;"), (Jvm.Cond.lays "java/lang/IllegalArgumentException" "java/lang/Throwable" "suppressedExceptions" "Ljava/util/List;"), (Jvm.Cond.lays "java/lang/IllegalArgumentException" "java/lang/Throwable" "detailMessage" "Ljava/lang/String;"), (Jvm.Cond.fieldLink "java/lang/Throwable" (198 : Nat) "java/lang/Throwable" "backtrace" "Ljava/lang/Object;"), (Jvm.Cond.lays "java/lang/Throwable" "java/lang/Throwable" "backtrace" "Ljava/lang/Object;"), (Jvm.Cond.lays "java/lang/IllegalArgumentException" "java/lang/Throwable" "backtrace" "Ljava/lang/Object;")] : List Jvm.Cond) from by decide +kernel] at hw
    exact (List.forall_mem_cons.mpr ⟨wd_1_11, List.forall_mem_cons.mpr ⟨wd_2_65, List.forall_mem_cons.mpr ⟨wd_2_74, List.forall_mem_cons.mpr ⟨wd_2_79, List.forall_mem_cons.mpr ⟨wd_2_82, List.forall_mem_cons.mpr ⟨wd_2_84, List.forall_mem_cons.mpr ⟨wd_2_66, List.forall_mem_cons.mpr ⟨wd_2_67, List.forall_mem_cons.mpr ⟨wd_1_28, List.forall_mem_cons.mpr ⟨wd_1_29, List.forall_mem_cons.mpr ⟨wd_2_68, List.forall_mem_cons.mpr ⟨wd_2_73, List.forall_mem_cons.mpr ⟨wd_2_80, List.forall_mem_cons.mpr ⟨wd_2_96, List.forall_mem_cons.mpr ⟨wd_2_55, List.forall_mem_cons.mpr ⟨wd_2_97, List.forall_mem_cons.mpr ⟨wd_2_57, List.forall_mem_cons.mpr ⟨wd_2_98, List.forall_mem_cons.mpr ⟨wd_2_59, List.forall_mem_cons.mpr ⟨wd_2_69, List.forall_mem_cons.mpr ⟨wd_2_71, List.forall_mem_cons.mpr ⟨wd_2_61, List.forall_mem_cons.mpr ⟨wd_2_86, List.forall_mem_cons.mpr ⟨wd_2_87, List.forall_mem_cons.mpr ⟨wd_2_88, List.forall_mem_cons.mpr ⟨wd_2_89, List.forall_mem_cons.mpr ⟨wd_2_89, List.forall_mem_cons.mpr ⟨wd_2_90, List.forall_mem_cons.mpr ⟨wd_2_91, List.forall_mem_cons.mpr ⟨wd_2_92, List.forall_mem_cons.mpr ⟨wd_2_92, List.forall_mem_cons.mpr ⟨wd_2_93, List.forall_mem_cons.mpr ⟨wd_2_94, List.forall_mem_cons.mpr ⟨wd_2_66, List.forall_mem_cons.mpr ⟨wd_2_85, List.forall_mem_cons.mpr ⟨wd_2_44, List.forall_mem_cons.mpr ⟨wd_2_52, List.forall_mem_cons.mpr ⟨wd_2_53, List.forall_mem_cons.mpr ⟨wd_2_54, List.forall_mem_cons.mpr ⟨wd_2_56, List.forall_mem_cons.mpr ⟨wd_2_58, List.forall_mem_cons.mpr ⟨wd_2_60, List.forall_mem_cons.mpr ⟨wd_2_64, List.forall_mem_cons.mpr ⟨wd_2_63, List.forall_mem_cons.mpr ⟨wd_2_62, fun _ h => absurd h List.not_mem_nil⟩⟩⟩⟩⟩⟩⟩⟩⟩⟩⟩⟩⟩⟩⟩⟩⟩⟩⟩⟩⟩⟩⟩⟩⟩⟩⟩⟩⟩⟩⟩⟩⟩⟩⟩⟩⟩⟩⟩⟩⟩⟩⟩⟩⟩) w hw
  · decide +kernel
  · decide +kernel
theorem metX9_requireArgument {l : Launch} (hf : l.stackTraces = false) : pvMet l yX9_requireArgument (Cond.code yX9_requireArgument cX9_requireArgument 1 none :: pvTb) mX9_requireArgument C_X9_requireArgument :=
  pvMet_of hf (y := yX9_requireArgument) plX9 pvTb_g coX9 foX9 pvCl (caX9_requireArgument hf) (exX9_requireArgument) (fun ix h => by rcases h with h | h <;> (unfold eX9 at h; split at h <;> cases h)) ⟨rfl, rfl⟩ chX9_requireArgument okX9_requireArgument
theorem pnX9_requireState : pvPn yX9_requireState = some 1 := by decide +kernel
theorem caX9_requireState {l : Launch} (hf : l.stackTraces = false) : pvCaOk l mX9_requireState "EventClockWorkbench" pvTb 58 aX9_requireState := by
  exact fun ix n b ci co C h => nomatch (show (none : Option (Nat × Bool × Nat × Nat × pvC)) = some (n, b, ci, co, C) from h)
set_option maxRecDepth 100000 in
theorem chX9_requireState : ∀ pc, pvChain cX9_requireState pc (bX9_requireState pc) := by
  intro pc
  unfold bX9_requireState
  split <;> first | exact True.intro | exact pvChain_of (by decide +kernel)
theorem nwX9_requireState : ∀ pc ix, decode cX9_requireState pc = .ok (.new ix, 3) → pc = 4 ∧ ix = 312 := by
  intro pc ix h
  by_cases hs : pc < cX9_requireState.size
  · have hq := List.all_eq_true.mp (show (List.range cX9_requireState.size).all (fun q => match decode cX9_requireState q with | .ok (.new j, _) => decide (q = 4 ∧ j = 312) | _ => true) = true from by decide +kernel) pc (List.mem_range.mpr hs)
    rw [h] at hq
    exact of_decide_eq_true hq
  · exact absurd h (dec_oob (by omega))
theorem exX9_requireState : pvExOk "EventClockWorkbench" cX9_requireState pvTb eX9 mX9_requireState := by
  intro ix ic k pc hE hk hd hd4
  obtain ⟨rfl, rfl⟩ := nwX9_requireState pc ix hd
  rw [show decode cX9_requireState (4 + 4) = .ok (.invokespecial 314, 3) from by decide +kernel] at hd4
  cases hd4
  cases (show some 2 = some k from hE)
  refine ⟨wd_2_114, wd_1_15, ?_, ?_, ?_, by decide, by decide⟩
  · intro w hw
    rw [show (vx_at0 "EventClockWorkbench" 314 (pvXn 2) ["java/lang/RuntimeException", "java/lang/Exception"]).filter goodWord = ([(Jvm.Cond.initialized "java/lang/Throwable"), (Jvm.Cond.superclass "java/lang/Throwable" "java/lang/Object"), (Jvm.Cond.instanceMethod ({ cls := "java/lang/Throwable", name := "fillInStackTrace", desc := "()Ljava/lang/Throwable;" } : Jvm.MethodName)), (Jvm.Cond.codeSync ({ cls := "java/lang/Throwable", name := "fillInStackTrace", desc := "()Ljava/lang/Throwable;" } : Jvm.MethodName) prog_22_method_18_code (1 : Nat) (Option.some (Jvm.ClassFile.FieldType.object "java/lang/Throwable"))), (Jvm.Cond.instanceMethod ({ cls := "java/lang/Throwable", name := "fillInStackTrace", desc := "(I)Ljava/lang/Throwable;" } : Jvm.MethodName)), (Jvm.Cond.native ({ cls := "java/lang/Throwable", name := "fillInStackTrace", desc := "(I)Ljava/lang/Throwable;" } : Jvm.MethodName)), (Jvm.Cond.instanceMethod ({ cls := "java/lang/Throwable", name := "<init>", desc := "()V" } : Jvm.MethodName)), (Jvm.Cond.code ({ cls := "java/lang/Throwable", name := "<init>", desc := "()V" } : Jvm.MethodName) prog_22_method_1_code (1 : Nat) (Option.none : Option Jvm.ClassFile.FieldType)), (Jvm.Cond.instanceMethod ({ cls := "java/lang/Object", name := "<init>", desc := "()V" } : Jvm.MethodName)), (Jvm.Cond.code ({ cls := "java/lang/Object", name := "<init>", desc := "()V" } : Jvm.MethodName) object_method_1_code (1 : Nat) (Option.none : Option Jvm.ClassFile.FieldType)), (Jvm.Cond.methodLink "java/lang/Throwable" (1 : Nat) ({ cls := "java/lang/Object", name := "<init>", desc := "()V" } : Jvm.MethodName)), (Jvm.Cond.methodLink "java/lang/Throwable" (27 : Nat) ({ cls := "java/lang/Throwable", name := "fillInStackTrace", desc := "()Ljava/lang/Throwable;" } : Jvm.MethodName)), (Jvm.Cond.methodLink "java/lang/Throwable" (202 : Nat) ({ cls := "java/lang/Throwable", name := "fillInStackTrace", desc := "(I)Ljava/lang/Throwable;" } : Jvm.MethodName)), (Jvm.Cond.fieldLink "java/lang/Throwable" (7 : Nat) "java/lang/Throwable" "cause" "Ljava/lang/Throwable;"), (Jvm.Cond.lays "java/lang/Throwable" "java/lang/Throwable" "cause" "Ljava/lang/Throwable;"), (Jvm.Cond.fieldLink "java/lang/Throwable" (17 : Nat) "java/lang/Throwable" "stackTrace" "[Ljava/lang/StackTraceElement;"), (Jvm.Cond.lays "java/lang/Throwable" "java/lang/Throwable" "stackTrace" "[Ljava/lang/StackTraceElement;"), (Jvm.Cond.fieldLink "java/lang/Throwable" (24 : Nat) "java/lang/Throwable" "suppressedExceptions" "Ljava/util/List;"), (Jvm.Cond.lays "java/lang/Throwable" "java/lang/Throwable" "suppressedExceptions" "Ljava/util/List;"), (Jvm.Cond.fieldLink "java/lang/Throwable" (13 : Nat) "java/lang/Throwable" "UNASSIGNED_STACK" "[Ljava/lang/StackTraceElement;"), (Jvm.Cond.fieldLink "java/lang/Throwable" (20 : Nat) "java/lang/Throwable" "SUPPRESSED_SENTINEL" "Ljava/util/List;"), (Jvm.Cond.lays "java/lang/Throwable" "java/lang/Throwable" "detailMessage" "Ljava/lang/String;"), (Jvm.Cond.instanceMethod ({ cls := "java/lang/IllegalStateException", name := "<init>", desc := "()V" } : Jvm.MethodName)), (Jvm.Cond.code ({ cls := "java/lang/IllegalStateException", name := "<init>", desc := "()V" } : Jvm.MethodName) prog_16_method_1_code (1 : Nat) (Option.none : Option Jvm.ClassFile.FieldType)), (Jvm.Cond.methodLink "java/lang/IllegalStateException" (1 : Nat) ({ cls := "java/lang/RuntimeException", name := "<init>", desc := "()V" } : Jvm.MethodName)), (Jvm.Cond.instanceMethod ({ cls := "java/lang/RuntimeException", name := "<init>", desc := "()V" } : Jvm.MethodName)), (Jvm.Cond.instanceMethod ({ cls := "java/lang/RuntimeException", name := "<init>", desc := "()V" } : Jvm.MethodName)), (Jvm.Cond.code ({ cls := "java/lang/RuntimeException", name := "<init>", desc := "()V" } : Jvm.MethodName) prog_20_method_1_code (1 : Nat) (Option.none : Option Jvm.ClassFile.FieldType)), (Jvm.Cond.methodLink "java/lang/RuntimeException" (1 : Nat) ({ cls := "java/lang/Exception", name := "<init>", desc := "()V" } : Jvm.MethodName)), (Jvm.Cond.instanceMethod ({ cls := "java/lang/Exception", name := "<init>", desc := "()V" } : Jvm.MethodName)), (Jvm.Cond.instanceMethod ({ cls := "java/lang/Exception", name := "<init>", desc := "()V" } : Jvm.MethodName)), (Jvm.Cond.code ({ cls := "java/lang/Exception", name := "<init>", desc := "()V" } : Jvm.MethodName) prog_14_method_1_code (1 : Nat) (Option.none : Option Jvm.ClassFile.FieldType)), (Jvm.Cond.methodLink "java/lang/Exception" (1 : Nat) ({ cls := "java/lang/Throwable", name := "<init>", desc := "()V" } : Jvm.MethodName)), (Jvm.Cond.instanceMethod ({ cls := "java/lang/Throwable", name := "<init>", desc := "()V" } : Jvm.MethodName)), (Jvm.Cond.methodLink "EventClockWorkbench" (314 : Nat) ({ cls := "java/lang/IllegalStateException", name := "<init>", desc := "()V" } : Jvm.MethodName)), (Jvm.Cond.instantiable "java/lang/IllegalStateException" (6 : Nat)), (Jvm.Cond.selects "java/lang/IllegalStateException" ({ cls := "java/lang/Throwable", name := "fillInStackTrace", desc := "(I)Ljava/lang/Throwable;" } : Jvm.MethodName) ({ cls := "java/lang/Throwable", name := "fillInStackTrace", desc := "(I)Ljava/lang/Throwable;" } : Jvm.MethodName)), (Jvm.Cond.selects "java/lang/IllegalStateException" ({ cls := "java/lang/Throwable", name := "fillInStackTrace", desc := "()Ljava/lang/Throwable;" } : Jvm.MethodName) ({ cls := "java/lang/Throwable", name := "fillInStackTrace", desc := "()Ljava/lang/Throwable;" } : Jvm.MethodName)), (Jvm.Cond.lays "java/lang/IllegalStateException" "java/lang/Throwable" "cause" "Ljava/lang/Throwable;"), (Jvm.Cond.lays "java/lang/IllegalStateException" "java/lang/Throwable" "stackTrace" "[Ljava/lang/StackTraceElement;"), (Jvm.Cond.lays "java/lang/IllegalStateException" "java/lang/Throwable" "suppressedExceptions" "Ljava/util/List;"), (Jvm.Cond.lays "java/lang/IllegalStateException" "java/lang/Throwable" "detailMessage" "Ljava/lang/String;"), (Jvm.Cond.fieldLink "java/lang/Throwable" (198 : Nat) "java/lang/Throwable" "backtrace" "Ljava/lang/Object;"), (Jvm.Cond.lays "java/lang/Throwable" "java/lang/Throwable" "backtrace" "Ljava/lang/Object;"), (Jvm.Cond.lays "java/lang/IllegalStateException" "java/lang/Throwable" "backtrace" "Ljava/lang/Object;")] : List Jvm.Cond) from by decide +kernel] at hw
    exact (List.forall_mem_cons.mpr ⟨wd_1_11, List.forall_mem_cons.mpr ⟨wd_2_65, List.forall_mem_cons.mpr ⟨wd_2_74, List.forall_mem_cons.mpr ⟨wd_2_79, List.forall_mem_cons.mpr ⟨wd_2_82, List.forall_mem_cons.mpr ⟨wd_2_84, List.forall_mem_cons.mpr ⟨wd_2_66, List.forall_mem_cons.mpr ⟨wd_2_67, List.forall_mem_cons.mpr ⟨wd_1_28, List.forall_mem_cons.mpr ⟨wd_1_29, List.forall_mem_cons.mpr ⟨wd_2_68, List.forall_mem_cons.mpr ⟨wd_2_73, List.forall_mem_cons.mpr ⟨wd_2_80, List.forall_mem_cons.mpr ⟨wd_2_96, List.forall_mem_cons.mpr ⟨wd_2_55, List.forall_mem_cons.mpr ⟨wd_2_97, List.forall_mem_cons.mpr ⟨wd_2_57, List.forall_mem_cons.mpr ⟨wd_2_98, List.forall_mem_cons.mpr ⟨wd_2_59, List.forall_mem_cons.mpr ⟨wd_2_69, List.forall_mem_cons.mpr ⟨wd_2_71, List.forall_mem_cons.mpr ⟨wd_2_61, List.forall_mem_cons.mpr ⟨wd_2_124, List.forall_mem_cons.mpr ⟨wd_2_125, List.forall_mem_cons.mpr ⟨wd_2_126, List.forall_mem_cons.mpr ⟨wd_2_89, List.forall_mem_cons.mpr ⟨wd_2_89, List.forall_mem_cons.mpr ⟨wd_2_90, List.forall_mem_cons.mpr ⟨wd_2_91, List.forall_mem_cons.mpr ⟨wd_2_92, List.forall_mem_cons.mpr ⟨wd_2_92, List.forall_mem_cons.mpr ⟨wd_2_93, List.forall_mem_cons.mpr ⟨wd_2_94, List.forall_mem_cons.mpr ⟨wd_2_66, List.forall_mem_cons.mpr ⟨wd_2_123, List.forall_mem_cons.mpr ⟨wd_2_115, List.forall_mem_cons.mpr ⟨wd_2_117, List.forall_mem_cons.mpr ⟨wd_2_76, List.forall_mem_cons.mpr ⟨wd_2_118, List.forall_mem_cons.mpr ⟨wd_2_119, List.forall_mem_cons.mpr ⟨wd_2_120, List.forall_mem_cons.mpr ⟨wd_2_121, List.forall_mem_cons.mpr ⟨wd_2_64, List.forall_mem_cons.mpr ⟨wd_2_63, List.forall_mem_cons.mpr ⟨wd_2_122, fun _ h => absurd h List.not_mem_nil⟩⟩⟩⟩⟩⟩⟩⟩⟩⟩⟩⟩⟩⟩⟩⟩⟩⟩⟩⟩⟩⟩⟩⟩⟩⟩⟩⟩⟩⟩⟩⟩⟩⟩⟩⟩⟩⟩⟩⟩⟩⟩⟩⟩⟩) w hw
  · decide +kernel
  · decide +kernel
theorem metX9_requireState {l : Launch} (hf : l.stackTraces = false) : pvMet l yX9_requireState (Cond.code yX9_requireState cX9_requireState 1 none :: pvTb) mX9_requireState C_X9_requireState :=
  pvMet_of hf (y := yX9_requireState) plX9 pvTb_g coX9 foX9 pvCl (caX9_requireState hf) (exX9_requireState) (fun ix h => by rcases h with h | h <;> (unfold eX9 at h; split at h <;> cases h)) ⟨rfl, rfl⟩ chX9_requireState okX9_requireState
theorem pnX9_appendCharacter : pvPn yX9_appendCharacter = some 1 := by decide +kernel
theorem caX9_appendCharacter {l : Launch} (hf : l.stackTraces = false) : pvCaOk l mX9_appendCharacter "EventClockWorkbench" pvTb 58 aX9_appendCharacter := by
  refine pvCaOk_i fun ix n b ci co C h => ?_
  unfold aX9_appendCharacter at h
  split at h
  · cases h; exact pvCe_S (metX9_isBetween hf) rfl wd_1_1 rfl wd_2_37 wd_2_38 pnX9_isBetween wd_2_39
  · cases h; exact pvCe_S (metX9_requireArgument hf) rfl wd_1_1 rfl wd_2_40 wd_2_41 pnX9_requireArgument wd_2_42
  · cases h; exact pvCe_V (k := 0) (T := TX1) (N := 5) (metX1_hasRoom hf) rfl wd_1_4 rfl wd_2_107 wd_2_108 wd_2_109 pnX1_hasRoom rfl wd_2_110
  · cases h; exact pvCe_S (metX9_requireState hf) rfl wd_1_1 rfl wd_2_111 wd_2_112 pnX9_requireState wd_2_113
  · cases h; exact pvCe_V (k := 1) (T := TX1) (N := 5) (metX1_append hf) rfl wd_1_4 rfl wd_2_129 wd_2_130 wd_2_131 pnX1_append rfl wd_2_132
  · cases h
set_option maxRecDepth 100000 in
theorem chX9_appendCharacter : ∀ pc, pvChain cX9_appendCharacter pc (bX9_appendCharacter pc) := by
  intro pc
  unfold bX9_appendCharacter
  split <;> first | exact True.intro | exact pvChain_of (by decide +kernel)
theorem frX9_appendCharacter : ∀ pc, (bX9_appendCharacter pc).all (fun q => pvFrB eX9 q.1) = true := by
  intro pc
  unfold bX9_appendCharacter
  split <;> rfl
theorem metX9_appendCharacter {l : Launch} (hf : l.stackTraces = false) : pvMet l yX9_appendCharacter (Cond.code yX9_appendCharacter cX9_appendCharacter 2 (some .int) :: pvTb) mX9_appendCharacter C_X9_appendCharacter :=
  pvMet_of hf (y := yX9_appendCharacter) plX9 pvTb_g coX9 foX9 pvCl (caX9_appendCharacter hf) pvExOk_0 (fun ix h => by rcases h with h | h <;> cases (show (none : Option Nat) = some _ from h)) ⟨rfl, rfl⟩ chX9_appendCharacter (pvOkM_ex okX9_appendCharacter frX9_appendCharacter)
theorem pnX9_faultPosition : pvPn yX9_faultPosition = some 0 := by decide +kernel
theorem caX9_faultPosition {l : Launch} (hf : l.stackTraces = false) : pvCaOk l mX9_faultPosition "EventClockWorkbench" pvTb 58 aX9_faultPosition := by
  exact fun ix n b ci co C h => nomatch (show (none : Option (Nat × Bool × Nat × Nat × pvC)) = some (n, b, ci, co, C) from h)
set_option maxRecDepth 100000 in
theorem chX9_faultPosition : ∀ pc, pvChain cX9_faultPosition pc (bX9_faultPosition pc) := by
  intro pc
  unfold bX9_faultPosition
  split <;> first | exact True.intro | exact pvChain_of (by decide +kernel)
theorem frX9_faultPosition : ∀ pc, (bX9_faultPosition pc).all (fun q => pvFrB eX9 q.1) = true := by
  intro pc
  unfold bX9_faultPosition
  split <;> rfl
theorem metX9_faultPosition {l : Launch} (hf : l.stackTraces = false) : pvMet l yX9_faultPosition (Cond.code yX9_faultPosition cX9_faultPosition 1 (some .int) :: pvTb) mX9_faultPosition C_X9_faultPosition :=
  pvMet_of hf (y := yX9_faultPosition) plX9 pvTb_g coX9 foX9 pvCl (caX9_faultPosition hf) pvExOk_0 (fun ix h => by rcases h with h | h <;> cases (show (none : Option Nat) = some _ from h)) ⟨rfl, rfl⟩ chX9_faultPosition (pvOkM_ex okX9_faultPosition frX9_faultPosition)
theorem pnX9_requireIndex : pvPn yX9_requireIndex = some 2 := by decide +kernel
theorem caX9_requireIndex {l : Launch} (hf : l.stackTraces = false) : pvCaOk l mX9_requireIndex "EventClockWorkbench" pvTb 58 aX9_requireIndex := by
  exact fun ix n b ci co C h => nomatch (show (none : Option (Nat × Bool × Nat × Nat × pvC)) = some (n, b, ci, co, C) from h)
set_option maxRecDepth 100000 in
theorem chX9_requireIndex : ∀ pc, pvChain cX9_requireIndex pc (bX9_requireIndex pc) := by
  intro pc
  unfold bX9_requireIndex
  split <;> first | exact True.intro | exact pvChain_of (by decide +kernel)
theorem nwX9_requireIndex : ∀ pc ix, decode cX9_requireIndex pc = .ok (.new ix, 3) → pc = 9 ∧ ix = 306 := by
  intro pc ix h
  by_cases hs : pc < cX9_requireIndex.size
  · have hq := List.all_eq_true.mp (show (List.range cX9_requireIndex.size).all (fun q => match decode cX9_requireIndex q with | .ok (.new j, _) => decide (q = 9 ∧ j = 306) | _ => true) = true from by decide +kernel) pc (List.mem_range.mpr hs)
    rw [h] at hq
    exact of_decide_eq_true hq
  · exact absurd h (dec_oob (by omega))
theorem exX9_requireIndex : pvExOk "EventClockWorkbench" cX9_requireIndex pvTb eX9 mX9_requireIndex := by
  intro ix ic k pc hE hk hd hd4
  obtain ⟨rfl, rfl⟩ := nwX9_requireIndex pc ix hd
  rw [show decode cX9_requireIndex (9 + 4) = .ok (.invokespecial 308, 3) from by decide +kernel] at hd4
  cases hd4
  cases (show some 0 = some k from hE)
  refine ⟨wd_2_145, wd_1_16, ?_, ?_, ?_, by decide, by decide⟩
  · intro w hw
    rw [show (vx_at0 "EventClockWorkbench" 308 (pvXn 0) ["java/lang/RuntimeException", "java/lang/Exception"]).filter goodWord = ([(Jvm.Cond.initialized "java/lang/Throwable"), (Jvm.Cond.superclass "java/lang/Throwable" "java/lang/Object"), (Jvm.Cond.instanceMethod ({ cls := "java/lang/Throwable", name := "fillInStackTrace", desc := "()Ljava/lang/Throwable;" } : Jvm.MethodName)), (Jvm.Cond.codeSync ({ cls := "java/lang/Throwable", name := "fillInStackTrace", desc := "()Ljava/lang/Throwable;" } : Jvm.MethodName) prog_22_method_18_code (1 : Nat) (Option.some (Jvm.ClassFile.FieldType.object "java/lang/Throwable"))), (Jvm.Cond.instanceMethod ({ cls := "java/lang/Throwable", name := "fillInStackTrace", desc := "(I)Ljava/lang/Throwable;" } : Jvm.MethodName)), (Jvm.Cond.native ({ cls := "java/lang/Throwable", name := "fillInStackTrace", desc := "(I)Ljava/lang/Throwable;" } : Jvm.MethodName)), (Jvm.Cond.instanceMethod ({ cls := "java/lang/Throwable", name := "<init>", desc := "()V" } : Jvm.MethodName)), (Jvm.Cond.code ({ cls := "java/lang/Throwable", name := "<init>", desc := "()V" } : Jvm.MethodName) prog_22_method_1_code (1 : Nat) (Option.none : Option Jvm.ClassFile.FieldType)), (Jvm.Cond.instanceMethod ({ cls := "java/lang/Object", name := "<init>", desc := "()V" } : Jvm.MethodName)), (Jvm.Cond.code ({ cls := "java/lang/Object", name := "<init>", desc := "()V" } : Jvm.MethodName) object_method_1_code (1 : Nat) (Option.none : Option Jvm.ClassFile.FieldType)), (Jvm.Cond.methodLink "java/lang/Throwable" (1 : Nat) ({ cls := "java/lang/Object", name := "<init>", desc := "()V" } : Jvm.MethodName)), (Jvm.Cond.methodLink "java/lang/Throwable" (27 : Nat) ({ cls := "java/lang/Throwable", name := "fillInStackTrace", desc := "()Ljava/lang/Throwable;" } : Jvm.MethodName)), (Jvm.Cond.methodLink "java/lang/Throwable" (202 : Nat) ({ cls := "java/lang/Throwable", name := "fillInStackTrace", desc := "(I)Ljava/lang/Throwable;" } : Jvm.MethodName)), (Jvm.Cond.fieldLink "java/lang/Throwable" (7 : Nat) "java/lang/Throwable" "cause" "Ljava/lang/Throwable;"), (Jvm.Cond.lays "java/lang/Throwable" "java/lang/Throwable" "cause" "Ljava/lang/Throwable;"), (Jvm.Cond.fieldLink "java/lang/Throwable" (17 : Nat) "java/lang/Throwable" "stackTrace" "[Ljava/lang/StackTraceElement;"), (Jvm.Cond.lays "java/lang/Throwable" "java/lang/Throwable" "stackTrace" "[Ljava/lang/StackTraceElement;"), (Jvm.Cond.fieldLink "java/lang/Throwable" (24 : Nat) "java/lang/Throwable" "suppressedExceptions" "Ljava/util/List;"), (Jvm.Cond.lays "java/lang/Throwable" "java/lang/Throwable" "suppressedExceptions" "Ljava/util/List;"), (Jvm.Cond.fieldLink "java/lang/Throwable" (13 : Nat) "java/lang/Throwable" "UNASSIGNED_STACK" "[Ljava/lang/StackTraceElement;"), (Jvm.Cond.fieldLink "java/lang/Throwable" (20 : Nat) "java/lang/Throwable" "SUPPRESSED_SENTINEL" "Ljava/util/List;"), (Jvm.Cond.lays "java/lang/Throwable" "java/lang/Throwable" "detailMessage" "Ljava/lang/String;"), (Jvm.Cond.instanceMethod ({ cls := "java/lang/IndexOutOfBoundsException", name := "<init>", desc := "()V" } : Jvm.MethodName)), (Jvm.Cond.code ({ cls := "java/lang/IndexOutOfBoundsException", name := "<init>", desc := "()V" } : Jvm.MethodName) prog_17_method_1_code (1 : Nat) (Option.none : Option Jvm.ClassFile.FieldType)), (Jvm.Cond.methodLink "java/lang/IndexOutOfBoundsException" (1 : Nat) ({ cls := "java/lang/RuntimeException", name := "<init>", desc := "()V" } : Jvm.MethodName)), (Jvm.Cond.instanceMethod ({ cls := "java/lang/RuntimeException", name := "<init>", desc := "()V" } : Jvm.MethodName)), (Jvm.Cond.instanceMethod ({ cls := "java/lang/RuntimeException", name := "<init>", desc := "()V" } : Jvm.MethodName)), (Jvm.Cond.code ({ cls := "java/lang/RuntimeException", name := "<init>", desc := "()V" } : Jvm.MethodName) prog_20_method_1_code (1 : Nat) (Option.none : Option Jvm.ClassFile.FieldType)), (Jvm.Cond.methodLink "java/lang/RuntimeException" (1 : Nat) ({ cls := "java/lang/Exception", name := "<init>", desc := "()V" } : Jvm.MethodName)), (Jvm.Cond.instanceMethod ({ cls := "java/lang/Exception", name := "<init>", desc := "()V" } : Jvm.MethodName)), (Jvm.Cond.instanceMethod ({ cls := "java/lang/Exception", name := "<init>", desc := "()V" } : Jvm.MethodName)), (Jvm.Cond.code ({ cls := "java/lang/Exception", name := "<init>", desc := "()V" } : Jvm.MethodName) prog_14_method_1_code (1 : Nat) (Option.none : Option Jvm.ClassFile.FieldType)), (Jvm.Cond.methodLink "java/lang/Exception" (1 : Nat) ({ cls := "java/lang/Throwable", name := "<init>", desc := "()V" } : Jvm.MethodName)), (Jvm.Cond.instanceMethod ({ cls := "java/lang/Throwable", name := "<init>", desc := "()V" } : Jvm.MethodName)), (Jvm.Cond.methodLink "EventClockWorkbench" (308 : Nat) ({ cls := "java/lang/IndexOutOfBoundsException", name := "<init>", desc := "()V" } : Jvm.MethodName)), (Jvm.Cond.instantiable "java/lang/IndexOutOfBoundsException" (6 : Nat)), (Jvm.Cond.selects "java/lang/IndexOutOfBoundsException" ({ cls := "java/lang/Throwable", name := "fillInStackTrace", desc := "(I)Ljava/lang/Throwable;" } : Jvm.MethodName) ({ cls := "java/lang/Throwable", name := "fillInStackTrace", desc := "(I)Ljava/lang/Throwable;" } : Jvm.MethodName)), (Jvm.Cond.selects "java/lang/IndexOutOfBoundsException" ({ cls := "java/lang/Throwable", name := "fillInStackTrace", desc := "()Ljava/lang/Throwable;" } : Jvm.MethodName) ({ cls := "java/lang/Throwable", name := "fillInStackTrace", desc := "()Ljava/lang/Throwable;" } : Jvm.MethodName)), (Jvm.Cond.lays "java/lang/IndexOutOfBoundsException" "java/lang/Throwable" "cause" "Ljava/lang/Throwable;"), (Jvm.Cond.lays "java/lang/IndexOutOfBoundsException" "java/lang/Throwable" "stackTrace" "[Ljava/lang/StackTraceElement;"), (Jvm.Cond.lays "java/lang/IndexOutOfBoundsException" "java/lang/Throwable" "suppressedExceptions" "Ljava/util/List;"), (Jvm.Cond.lays "java/lang/IndexOutOfBoundsException" "java/lang/Throwable" "detailMessage" "Ljava/lang/String;"), (Jvm.Cond.fieldLink "java/lang/Throwable" (198 : Nat) "java/lang/Throwable" "backtrace" "Ljava/lang/Object;"), (Jvm.Cond.lays "java/lang/Throwable" "java/lang/Throwable" "backtrace" "Ljava/lang/Object;"), (Jvm.Cond.lays "java/lang/IndexOutOfBoundsException" "java/lang/Throwable" "backtrace" "Ljava/lang/Object;")] : List Jvm.Cond) from by decide +kernel] at hw
    exact (List.forall_mem_cons.mpr ⟨wd_1_11, List.forall_mem_cons.mpr ⟨wd_2_65, List.forall_mem_cons.mpr ⟨wd_2_74, List.forall_mem_cons.mpr ⟨wd_2_79, List.forall_mem_cons.mpr ⟨wd_2_82, List.forall_mem_cons.mpr ⟨wd_2_84, List.forall_mem_cons.mpr ⟨wd_2_66, List.forall_mem_cons.mpr ⟨wd_2_67, List.forall_mem_cons.mpr ⟨wd_1_28, List.forall_mem_cons.mpr ⟨wd_1_29, List.forall_mem_cons.mpr ⟨wd_2_68, List.forall_mem_cons.mpr ⟨wd_2_73, List.forall_mem_cons.mpr ⟨wd_2_80, List.forall_mem_cons.mpr ⟨wd_2_96, List.forall_mem_cons.mpr ⟨wd_2_55, List.forall_mem_cons.mpr ⟨wd_2_97, List.forall_mem_cons.mpr ⟨wd_2_57, List.forall_mem_cons.mpr ⟨wd_2_98, List.forall_mem_cons.mpr ⟨wd_2_59, List.forall_mem_cons.mpr ⟨wd_2_69, List.forall_mem_cons.mpr ⟨wd_2_71, List.forall_mem_cons.mpr ⟨wd_2_61, List.forall_mem_cons.mpr ⟨wd_2_155, List.forall_mem_cons.mpr ⟨wd_2_156, List.forall_mem_cons.mpr ⟨wd_2_157, List.forall_mem_cons.mpr ⟨wd_2_89, List.forall_mem_cons.mpr ⟨wd_2_89, List.forall_mem_cons.mpr ⟨wd_2_90, List.forall_mem_cons.mpr ⟨wd_2_91, List.forall_mem_cons.mpr ⟨wd_2_92, List.forall_mem_cons.mpr ⟨wd_2_92, List.forall_mem_cons.mpr ⟨wd_2_93, List.forall_mem_cons.mpr ⟨wd_2_94, List.forall_mem_cons.mpr ⟨wd_2_66, List.forall_mem_cons.mpr ⟨wd_2_154, List.forall_mem_cons.mpr ⟨wd_2_146, List.forall_mem_cons.mpr ⟨wd_2_148, List.forall_mem_cons.mpr ⟨wd_2_77, List.forall_mem_cons.mpr ⟨wd_2_149, List.forall_mem_cons.mpr ⟨wd_2_150, List.forall_mem_cons.mpr ⟨wd_2_151, List.forall_mem_cons.mpr ⟨wd_2_152, List.forall_mem_cons.mpr ⟨wd_2_64, List.forall_mem_cons.mpr ⟨wd_2_63, List.forall_mem_cons.mpr ⟨wd_2_153, fun _ h => absurd h List.not_mem_nil⟩⟩⟩⟩⟩⟩⟩⟩⟩⟩⟩⟩⟩⟩⟩⟩⟩⟩⟩⟩⟩⟩⟩⟩⟩⟩⟩⟩⟩⟩⟩⟩⟩⟩⟩⟩⟩⟩⟩⟩⟩⟩⟩⟩⟩) w hw
  · decide +kernel
  · decide +kernel
theorem metX9_requireIndex {l : Launch} (hf : l.stackTraces = false) : pvMet l yX9_requireIndex (Cond.code yX9_requireIndex cX9_requireIndex 2 none :: pvTb) mX9_requireIndex C_X9_requireIndex :=
  pvMet_of hf (y := yX9_requireIndex) plX9 pvTb_g coX9 foX9 pvCl (caX9_requireIndex hf) (exX9_requireIndex) (fun ix h => by rcases h with h | h <;> (unfold eX9 at h; split at h <;> cases h)) ⟨rfl, rfl⟩ chX9_requireIndex okX9_requireIndex
theorem pnX9_automaton : pvPn yX9_automaton = some 1 := by decide +kernel
theorem caX9_automaton {l : Launch} (hf : l.stackTraces = false) : pvCaOk l mX9_automaton "EventClockWorkbench" pvTb 58 aX9_automaton := by
  exact fun ix n b ci co C h => nomatch (show (none : Option (Nat × Bool × Nat × Nat × pvC)) = some (n, b, ci, co, C) from h)
set_option maxRecDepth 100000 in
theorem chX9_automaton : ∀ pc, pvChain cX9_automaton pc (bX9_automaton pc) := by
  intro pc
  unfold bX9_automaton
  split <;> first | exact True.intro | exact pvChain_of (by decide +kernel)
theorem frX9_automaton : ∀ pc, (bX9_automaton pc).all (fun q => pvFrB eX9 q.1) = true := by
  intro pc
  unfold bX9_automaton
  split <;> rfl
theorem metX9_automaton {l : Launch} (hf : l.stackTraces = false) : pvMet l yX9_automaton (Cond.code yX9_automaton cX9_automaton 2 (some (.object "EventClockWorkbench$Automaton")) :: pvTb) mX9_automaton C_X9_automaton :=
  pvMet_of hf (y := yX9_automaton) plX9 pvTb_g coX9 foX9 pvCl (caX9_automaton hf) pvExOk_0 (fun ix h => by rcases h with h | h <;> cases (show (none : Option Nat) = some _ from h)) ⟨rfl, rfl⟩ chX9_automaton (pvOkM_ex okX9_automaton frX9_automaton)
theorem pnX9_markStale : pvPn yX9_markStale = some 0 := by decide +kernel
theorem caX9_markStale {l : Launch} (hf : l.stackTraces = false) : pvCaOk l mX9_markStale "EventClockWorkbench" pvTb 58 aX9_markStale := by
  exact fun ix n b ci co C h => nomatch (show (none : Option (Nat × Bool × Nat × Nat × pvC)) = some (n, b, ci, co, C) from h)
set_option maxRecDepth 100000 in
theorem chX9_markStale : ∀ pc, pvChain cX9_markStale pc (bX9_markStale pc) := by
  intro pc
  unfold bX9_markStale
  split <;> first | exact True.intro | exact pvChain_of (by decide +kernel)
theorem frX9_markStale : ∀ pc, (bX9_markStale pc).all (fun q => pvFrB eX9 q.1) = true := by
  intro pc
  unfold bX9_markStale
  split <;> rfl
theorem metX9_markStale {l : Launch} (hf : l.stackTraces = false) : pvMet l yX9_markStale (Cond.code yX9_markStale cX9_markStale 1 none :: pvTb) mX9_markStale C_X9_markStale :=
  pvMet_of hf (y := yX9_markStale) plX9 pvTb_g coX9 foX9 pvCl (caX9_markStale hf) pvExOk_0 (fun ix h => by rcases h with h | h <;> cases (show (none : Option Nat) = some _ from h)) ⟨rfl, rfl⟩ chX9_markStale (pvOkM_ex okX9_markStale frX9_markStale)
theorem pnX9_beginChange : pvPn yX9_beginChange = some 0 := by decide +kernel
theorem caX9_beginChange {l : Launch} (hf : l.stackTraces = false) : pvCaOk l mX9_beginChange "EventClockWorkbench" pvTb 58 aX9_beginChange := by
  refine pvCaOk_i fun ix n b ci co C h => ?_
  unfold aX9_beginChange at h
  split at h
  · cases h; exact pvCe_V (k := 0) (T := TX9) (N := 11) (metX9_markStale hf) rfl wd_1_1 rfl wd_2_203 wd_2_205 ps_1_7 pnX9_markStale rfl wd_2_206
  · cases h; exact pvCe_V (k := 2) (T := TX2) (N := 5) (metX2_remember hf) rfl wd_1_9 rfl wd_2_196 wd_2_197 wd_2_198 pnX2_remember rfl wd_2_199
  · cases h
set_option maxRecDepth 100000 in
theorem chX9_beginChange : ∀ pc, pvChain cX9_beginChange pc (bX9_beginChange pc) := by
  intro pc
  unfold bX9_beginChange
  split <;> first | exact True.intro | exact pvChain_of (by decide +kernel)
theorem frX9_beginChange : ∀ pc, (bX9_beginChange pc).all (fun q => pvFrB eX9 q.1) = true := by
  intro pc
  unfold bX9_beginChange
  split <;> rfl
theorem metX9_beginChange {l : Launch} (hf : l.stackTraces = false) : pvMet l yX9_beginChange (Cond.code yX9_beginChange cX9_beginChange 1 none :: pvTb) mX9_beginChange C_X9_beginChange :=
  pvMet_of hf (y := yX9_beginChange) plX9 pvTb_g coX9 foX9 pvCl (caX9_beginChange hf) pvExOk_0 (fun ix h => by rcases h with h | h <;> cases (show (none : Option Nat) = some _ from h)) ⟨rfl, rfl⟩ chX9_beginChange (pvOkM_ex okX9_beginChange frX9_beginChange)
theorem pnX9_addTransition : pvPn yX9_addTransition = some 4 := by decide +kernel
theorem caX9_addTransition {l : Launch} (hf : l.stackTraces = false) : pvCaOk l mX9_addTransition "EventClockWorkbench" pvTb 58 aX9_addTransition := by
  refine pvCaOk_i fun ix n b ci co C h => ?_
  unfold aX9_addTransition at h
  split at h
  · cases h; exact pvCe_S (metX9_requireArgument hf) rfl wd_1_1 rfl wd_2_40 wd_2_41 pnX9_requireArgument wd_2_42
  · cases h; exact pvCe_S (metX9_requireState hf) rfl wd_1_1 rfl wd_2_111 wd_2_112 pnX9_requireState wd_2_113
  · cases h; exact pvCe_S (metX9_requireIndex hf) rfl wd_1_1 rfl wd_2_142 wd_2_143 pnX9_requireIndex wd_2_144
  · cases h; exact pvCe_V (k := 0) (T := TX1) (N := 5) (metX1_read hf) rfl wd_1_4 rfl wd_2_160 wd_2_161 wd_2_162 pnX1_read rfl wd_2_163
  · cases h; exact pvCe_V (k := 1) (T := TX9) (N := 11) (metX9_automaton hf) rfl wd_1_1 rfl wd_2_184 wd_2_186 ps_1_5 pnX9_automaton rfl wd_2_187
  · cases h; exact pvCe_V (k := 0) (T := TX0) (N := 1) (metX0_size hf) rfl wd_1_2 rfl wd_2_188 wd_2_189 wd_2_190 pnX0_size rfl wd_2_191
  · cases h; exact pvCe_V (k := 0) (T := TX9) (N := 11) (metX9_beginChange hf) rfl wd_1_1 rfl wd_2_192 wd_2_194 ps_1_6 pnX9_beginChange rfl wd_2_195
  · cases h; exact pvCe_V (k := 4) (T := TX0) (N := 1) (metX0_add hf) rfl wd_1_2 rfl wd_2_207 wd_2_208 wd_2_209 pnX0_add rfl wd_2_210
  · cases h
set_option maxRecDepth 100000 in
theorem chX9_addTransition : ∀ pc, pvChain cX9_addTransition pc (bX9_addTransition pc) := by
  intro pc
  unfold bX9_addTransition
  split <;> first | exact True.intro | exact pvChain_of (by decide +kernel)
theorem frX9_addTransition : ∀ pc, (bX9_addTransition pc).all (fun q => pvFrB eX9 q.1) = true := by
  intro pc
  unfold bX9_addTransition
  split <;> rfl
theorem metX9_addTransition {l : Launch} (hf : l.stackTraces = false) : pvMet l yX9_addTransition (Cond.code yX9_addTransition cX9_addTransition 6 (some .int) :: pvTb) mX9_addTransition C_X9_addTransition :=
  pvMet_of hf (y := yX9_addTransition) plX9 pvTb_g coX9 foX9 pvCl (caX9_addTransition hf) pvExOk_0 (fun ix h => by rcases h with h | h <;> cases (show (none : Option Nat) = some _ from h)) ⟨rfl, rfl⟩ chX9_addTransition (pvOkM_ex okX9_addTransition frX9_addTransition)
theorem pnX9_requireTransition : pvPn yX9_requireTransition = some 2 := by decide +kernel
theorem caX9_requireTransition {l : Launch} (hf : l.stackTraces = false) : pvCaOk l mX9_requireTransition "EventClockWorkbench" pvTb 58 aX9_requireTransition := by
  refine pvCaOk_i fun ix n b ci co C h => ?_
  unfold aX9_requireTransition at h
  split at h
  · cases h; exact pvCe_S (metX9_requireIndex hf) rfl wd_1_1 rfl wd_2_142 wd_2_143 pnX9_requireIndex wd_2_144
  · cases h; exact pvCe_V (k := 1) (T := TX9) (N := 11) (metX9_automaton hf) rfl wd_1_1 rfl wd_2_184 wd_2_186 ps_1_5 pnX9_automaton rfl wd_2_187
  · cases h; exact pvCe_V (k := 0) (T := TX0) (N := 1) (metX0_size hf) rfl wd_1_2 rfl wd_2_188 wd_2_189 wd_2_190 pnX0_size rfl wd_2_191
  · cases h
set_option maxRecDepth 100000 in
theorem chX9_requireTransition : ∀ pc, pvChain cX9_requireTransition pc (bX9_requireTransition pc) := by
  intro pc
  unfold bX9_requireTransition
  split <;> first | exact True.intro | exact pvChain_of (by decide +kernel)
theorem frX9_requireTransition : ∀ pc, (bX9_requireTransition pc).all (fun q => pvFrB eX9 q.1) = true := by
  intro pc
  unfold bX9_requireTransition
  split <;> rfl
theorem metX9_requireTransition {l : Launch} (hf : l.stackTraces = false) : pvMet l yX9_requireTransition (Cond.code yX9_requireTransition cX9_requireTransition 3 none :: pvTb) mX9_requireTransition C_X9_requireTransition :=
  pvMet_of hf (y := yX9_requireTransition) plX9 pvTb_g coX9 foX9 pvCl (caX9_requireTransition hf) pvExOk_0 (fun ix h => by rcases h with h | h <;> cases (show (none : Option Nat) = some _ from h)) ⟨rfl, rfl⟩ chX9_requireTransition (pvOkM_ex okX9_requireTransition frX9_requireTransition)
theorem pnX9_removeTransition : pvPn yX9_removeTransition = some 2 := by decide +kernel
theorem caX9_removeTransition {l : Launch} (hf : l.stackTraces = false) : pvCaOk l mX9_removeTransition "EventClockWorkbench" pvTb 58 aX9_removeTransition := by
  refine pvCaOk_i fun ix n b ci co C h => ?_
  unfold aX9_removeTransition at h
  split at h
  · cases h; exact pvCe_V (k := 1) (T := TX9) (N := 11) (metX9_automaton hf) rfl wd_1_1 rfl wd_2_184 wd_2_186 ps_1_5 pnX9_automaton rfl wd_2_187
  · cases h; exact pvCe_V (k := 0) (T := TX9) (N := 11) (metX9_beginChange hf) rfl wd_1_1 rfl wd_2_192 wd_2_194 ps_1_6 pnX9_beginChange rfl wd_2_195
  · cases h; exact pvCe_V (k := 2) (T := TX9) (N := 11) (metX9_requireTransition hf) rfl wd_1_1 rfl wd_3_7 wd_3_9 ps_1_10 pnX9_requireTransition rfl wd_3_10
  · cases h; exact pvCe_V (k := 1) (T := TX0) (N := 1) (metX0_remove hf) rfl wd_1_2 rfl wd_3_11 wd_3_12 wd_3_13 pnX0_remove rfl wd_3_14
  · cases h
set_option maxRecDepth 100000 in
theorem chX9_removeTransition : ∀ pc, pvChain cX9_removeTransition pc (bX9_removeTransition pc) := by
  intro pc
  unfold bX9_removeTransition
  split <;> first | exact True.intro | exact pvChain_of (by decide +kernel)
theorem frX9_removeTransition : ∀ pc, (bX9_removeTransition pc).all (fun q => pvFrB eX9 q.1) = true := by
  intro pc
  unfold bX9_removeTransition
  split <;> rfl
theorem metX9_removeTransition {l : Launch} (hf : l.stackTraces = false) : pvMet l yX9_removeTransition (Cond.code yX9_removeTransition cX9_removeTransition 3 (some .int) :: pvTb) mX9_removeTransition C_X9_removeTransition :=
  pvMet_of hf (y := yX9_removeTransition) plX9 pvTb_g coX9 foX9 pvCl (caX9_removeTransition hf) pvExOk_0 (fun ix h => by rcases h with h | h <;> cases (show (none : Option Nat) = some _ from h)) ⟨rfl, rfl⟩ chX9_removeTransition (pvOkM_ex okX9_removeTransition frX9_removeTransition)
theorem pnX9_withState : pvPn yX9_withState = some 3 := by decide +kernel
theorem caX9_withState {l : Launch} (hf : l.stackTraces = false) : pvCaOk l mX9_withState "EventClockWorkbench" pvTb 58 aX9_withState := by
  exact fun ix n b ci co C h => nomatch (show (none : Option (Nat × Bool × Nat × Nat × pvC)) = some (n, b, ci, co, C) from h)
set_option maxRecDepth 100000 in
theorem chX9_withState : ∀ pc, pvChain cX9_withState pc (bX9_withState pc) := by
  intro pc
  unfold bX9_withState
  split <;> first | exact True.intro | exact pvChain_of (by decide +kernel)
theorem frX9_withState : ∀ pc, (bX9_withState pc).all (fun q => pvFrB eX9 q.1) = true := by
  intro pc
  unfold bX9_withState
  split <;> rfl
theorem metX9_withState {l : Launch} (hf : l.stackTraces = false) : pvMet l yX9_withState (Cond.code yX9_withState cX9_withState 3 (some .int) :: pvTb) mX9_withState C_X9_withState :=
  pvMet_of hf (y := yX9_withState) plX9 pvTb_g coX9 foX9 pvCl (caX9_withState hf) pvExOk_0 (fun ix h => by rcases h with h | h <;> cases (show (none : Option Nat) = some _ from h)) ⟨rfl, rfl⟩ chX9_withState (pvOkM_ex okX9_withState frX9_withState)
theorem pnX9_setInitial : pvPn yX9_setInitial = some 3 := by decide +kernel
theorem caX9_setInitial {l : Launch} (hf : l.stackTraces = false) : pvCaOk l mX9_setInitial "EventClockWorkbench" pvTb 58 aX9_setInitial := by
  refine pvCaOk_i fun ix n b ci co C h => ?_
  unfold aX9_setInitial at h
  split at h
  · cases h; exact pvCe_S (metX9_requireIndex hf) rfl wd_1_1 rfl wd_2_142 wd_2_143 pnX9_requireIndex wd_2_144
  · cases h; exact pvCe_V (k := 1) (T := TX9) (N := 11) (metX9_automaton hf) rfl wd_1_1 rfl wd_2_184 wd_2_186 ps_1_5 pnX9_automaton rfl wd_2_187
  · cases h; exact pvCe_V (k := 0) (T := TX9) (N := 11) (metX9_beginChange hf) rfl wd_1_1 rfl wd_2_192 wd_2_194 ps_1_6 pnX9_beginChange rfl wd_2_195
  · cases h; exact pvCe_V (k := 0) (T := TX0) (N := 1) (metX0_initialStates hf) rfl wd_1_2 rfl wd_3_22 wd_3_23 wd_3_24 pnX0_initialStates rfl wd_3_25
  · cases h; exact pvCe_S (metX9_withState hf) rfl wd_1_1 rfl wd_3_26 wd_3_27 pnX9_withState wd_3_28
  · cases h; exact pvCe_V (k := 1) (T := TX0) (N := 1) (metX0_putInitialStates hf) rfl wd_1_2 rfl wd_3_29 wd_3_30 wd_3_31 pnX0_putInitialStates rfl wd_3_32
  · cases h; exact pvCe_S (metX9_hasState hf) rfl wd_1_1 rfl wd_3_33 wd_3_34 pnX9_hasState wd_3_35
  · cases h
set_option maxRecDepth 100000 in
theorem chX9_setInitial : ∀ pc, pvChain cX9_setInitial pc (bX9_setInitial pc) := by
  intro pc
  unfold bX9_setInitial
  split <;> first | exact True.intro | exact pvChain_of (by decide +kernel)
theorem frX9_setInitial : ∀ pc, (bX9_setInitial pc).all (fun q => pvFrB eX9 q.1) = true := by
  intro pc
  unfold bX9_setInitial
  split <;> rfl
theorem metX9_setInitial {l : Launch} (hf : l.stackTraces = false) : pvMet l yX9_setInitial (Cond.code yX9_setInitial cX9_setInitial 6 (some .boolean) :: pvTb) mX9_setInitial C_X9_setInitial :=
  pvMet_of hf (y := yX9_setInitial) plX9 pvTb_g coX9 foX9 pvCl (caX9_setInitial hf) pvExOk_0 (fun ix h => by rcases h with h | h <;> cases (show (none : Option Nat) = some _ from h)) ⟨rfl, rfl⟩ chX9_setInitial (pvOkM_ex okX9_setInitial frX9_setInitial)
theorem pnX9_setFinal : pvPn yX9_setFinal = some 3 := by decide +kernel
theorem caX9_setFinal {l : Launch} (hf : l.stackTraces = false) : pvCaOk l mX9_setFinal "EventClockWorkbench" pvTb 58 aX9_setFinal := by
  refine pvCaOk_i fun ix n b ci co C h => ?_
  unfold aX9_setFinal at h
  split at h
  · cases h; exact pvCe_S (metX9_requireIndex hf) rfl wd_1_1 rfl wd_2_142 wd_2_143 pnX9_requireIndex wd_2_144
  · cases h; exact pvCe_V (k := 1) (T := TX9) (N := 11) (metX9_automaton hf) rfl wd_1_1 rfl wd_2_184 wd_2_186 ps_1_5 pnX9_automaton rfl wd_2_187
  · cases h; exact pvCe_V (k := 0) (T := TX9) (N := 11) (metX9_beginChange hf) rfl wd_1_1 rfl wd_2_192 wd_2_194 ps_1_6 pnX9_beginChange rfl wd_2_195
  · cases h; exact pvCe_S (metX9_withState hf) rfl wd_1_1 rfl wd_3_26 wd_3_27 pnX9_withState wd_3_28
  · cases h; exact pvCe_S (metX9_hasState hf) rfl wd_1_1 rfl wd_3_33 wd_3_34 pnX9_hasState wd_3_35
  · cases h; exact pvCe_V (k := 0) (T := TX0) (N := 1) (metX0_finalStates hf) rfl wd_1_2 rfl wd_3_43 wd_3_44 wd_3_45 pnX0_finalStates rfl wd_3_46
  · cases h; exact pvCe_V (k := 1) (T := TX0) (N := 1) (metX0_putFinalStates hf) rfl wd_1_2 rfl wd_3_47 wd_3_48 wd_3_49 pnX0_putFinalStates rfl wd_3_50
  · cases h
set_option maxRecDepth 100000 in
theorem chX9_setFinal : ∀ pc, pvChain cX9_setFinal pc (bX9_setFinal pc) := by
  intro pc
  unfold bX9_setFinal
  split <;> first | exact True.intro | exact pvChain_of (by decide +kernel)
theorem frX9_setFinal : ∀ pc, (bX9_setFinal pc).all (fun q => pvFrB eX9 q.1) = true := by
  intro pc
  unfold bX9_setFinal
  split <;> rfl
theorem metX9_setFinal {l : Launch} (hf : l.stackTraces = false) : pvMet l yX9_setFinal (Cond.code yX9_setFinal cX9_setFinal 6 (some .boolean) :: pvTb) mX9_setFinal C_X9_setFinal :=
  pvMet_of hf (y := yX9_setFinal) plX9 pvTb_g coX9 foX9 pvCl (caX9_setFinal hf) pvExOk_0 (fun ix h => by rcases h with h | h <;> cases (show (none : Option Nat) = some _ from h)) ⟨rfl, rfl⟩ chX9_setFinal (pvOkM_ex okX9_setFinal frX9_setFinal)
theorem pnX9_copyAutomaton : pvPn yX9_copyAutomaton = some 1 := by decide +kernel
theorem caX9_copyAutomaton {l : Launch} (hf : l.stackTraces = false) : pvCaOk l mX9_copyAutomaton "EventClockWorkbench" pvTb 58 aX9_copyAutomaton := by
  refine pvCaOk_i fun ix n b ci co C h => ?_
  unfold aX9_copyAutomaton at h
  split at h
  · cases h; exact pvCe_S (metX9_requireIndex hf) rfl wd_1_1 rfl wd_2_142 wd_2_143 pnX9_requireIndex wd_2_144
  · cases h; exact pvCe_V (k := 1) (T := TX9) (N := 11) (metX9_automaton hf) rfl wd_1_1 rfl wd_2_184 wd_2_186 ps_1_5 pnX9_automaton rfl wd_2_187
  · cases h; exact pvCe_V (k := 0) (T := TX9) (N := 11) (metX9_beginChange hf) rfl wd_1_1 rfl wd_2_192 wd_2_194 ps_1_6 pnX9_beginChange rfl wd_2_195
  · cases h; exact pvCe_V (k := 1) (T := TX0) (N := 1) (metX0_become hf) rfl wd_1_2 rfl wd_3_58 wd_3_59 wd_3_60 pnX0_become rfl wd_3_61
  · cases h
set_option maxRecDepth 100000 in
theorem chX9_copyAutomaton : ∀ pc, pvChain cX9_copyAutomaton pc (bX9_copyAutomaton pc) := by
  intro pc
  unfold bX9_copyAutomaton
  split <;> first | exact True.intro | exact pvChain_of (by decide +kernel)
theorem frX9_copyAutomaton : ∀ pc, (bX9_copyAutomaton pc).all (fun q => pvFrB eX9 q.1) = true := by
  intro pc
  unfold bX9_copyAutomaton
  split <;> rfl
theorem metX9_copyAutomaton {l : Launch} (hf : l.stackTraces = false) : pvMet l yX9_copyAutomaton (Cond.code yX9_copyAutomaton cX9_copyAutomaton 2 none :: pvTb) mX9_copyAutomaton C_X9_copyAutomaton :=
  pvMet_of hf (y := yX9_copyAutomaton) plX9 pvTb_g coX9 foX9 pvCl (caX9_copyAutomaton hf) pvExOk_0 (fun ix h => by rcases h with h | h <;> cases (show (none : Option Nat) = some _ from h)) ⟨rfl, rfl⟩ chX9_copyAutomaton (pvOkM_ex okX9_copyAutomaton frX9_copyAutomaton)
theorem pnX9_clearAutomaton : pvPn yX9_clearAutomaton = some 1 := by decide +kernel
theorem caX9_clearAutomaton {l : Launch} (hf : l.stackTraces = false) : pvCaOk l mX9_clearAutomaton "EventClockWorkbench" pvTb 58 aX9_clearAutomaton := by
  refine pvCaOk_i fun ix n b ci co C h => ?_
  unfold aX9_clearAutomaton at h
  split at h
  · cases h; exact pvCe_S (metX9_requireIndex hf) rfl wd_1_1 rfl wd_2_142 wd_2_143 pnX9_requireIndex wd_2_144
  · cases h; exact pvCe_V (k := 1) (T := TX9) (N := 11) (metX9_automaton hf) rfl wd_1_1 rfl wd_2_184 wd_2_186 ps_1_5 pnX9_automaton rfl wd_2_187
  · cases h; exact pvCe_V (k := 0) (T := TX9) (N := 11) (metX9_beginChange hf) rfl wd_1_1 rfl wd_2_192 wd_2_194 ps_1_6 pnX9_beginChange rfl wd_2_195
  · cases h; exact pvCe_V (k := 0) (T := TX0) (N := 1) (metX0_reset hf) rfl wd_1_2 rfl wd_3_69 wd_3_70 wd_3_71 pnX0_reset rfl wd_3_72
  · cases h
set_option maxRecDepth 100000 in
theorem chX9_clearAutomaton : ∀ pc, pvChain cX9_clearAutomaton pc (bX9_clearAutomaton pc) := by
  intro pc
  unfold bX9_clearAutomaton
  split <;> first | exact True.intro | exact pvChain_of (by decide +kernel)
theorem frX9_clearAutomaton : ∀ pc, (bX9_clearAutomaton pc).all (fun q => pvFrB eX9 q.1) = true := by
  intro pc
  unfold bX9_clearAutomaton
  split <;> rfl
theorem metX9_clearAutomaton {l : Launch} (hf : l.stackTraces = false) : pvMet l yX9_clearAutomaton (Cond.code yX9_clearAutomaton cX9_clearAutomaton 2 none :: pvTb) mX9_clearAutomaton C_X9_clearAutomaton :=
  pvMet_of hf (y := yX9_clearAutomaton) plX9 pvTb_g coX9 foX9 pvCl (caX9_clearAutomaton hf) pvExOk_0 (fun ix h => by rcases h with h | h <;> cases (show (none : Option Nat) = some _ from h)) ⟨rfl, rfl⟩ chX9_clearAutomaton (pvOkM_ex okX9_clearAutomaton frX9_clearAutomaton)
theorem pnX9_transitionCount : pvPn yX9_transitionCount = some 1 := by decide +kernel
theorem caX9_transitionCount {l : Launch} (hf : l.stackTraces = false) : pvCaOk l mX9_transitionCount "EventClockWorkbench" pvTb 58 aX9_transitionCount := by
  refine pvCaOk_i fun ix n b ci co C h => ?_
  unfold aX9_transitionCount at h
  split at h
  · cases h; exact pvCe_S (metX9_requireIndex hf) rfl wd_1_1 rfl wd_2_142 wd_2_143 pnX9_requireIndex wd_2_144
  · cases h; exact pvCe_V (k := 1) (T := TX9) (N := 11) (metX9_automaton hf) rfl wd_1_1 rfl wd_2_184 wd_2_186 ps_1_5 pnX9_automaton rfl wd_2_187
  · cases h; exact pvCe_V (k := 0) (T := TX0) (N := 1) (metX0_size hf) rfl wd_1_2 rfl wd_2_188 wd_2_189 wd_2_190 pnX0_size rfl wd_2_191
  · cases h
set_option maxRecDepth 100000 in
theorem chX9_transitionCount : ∀ pc, pvChain cX9_transitionCount pc (bX9_transitionCount pc) := by
  intro pc
  unfold bX9_transitionCount
  split <;> first | exact True.intro | exact pvChain_of (by decide +kernel)
theorem frX9_transitionCount : ∀ pc, (bX9_transitionCount pc).all (fun q => pvFrB eX9 q.1) = true := by
  intro pc
  unfold bX9_transitionCount
  split <;> rfl
theorem metX9_transitionCount {l : Launch} (hf : l.stackTraces = false) : pvMet l yX9_transitionCount (Cond.code yX9_transitionCount cX9_transitionCount 2 (some .int) :: pvTb) mX9_transitionCount C_X9_transitionCount :=
  pvMet_of hf (y := yX9_transitionCount) plX9 pvTb_g coX9 foX9 pvCl (caX9_transitionCount hf) pvExOk_0 (fun ix h => by rcases h with h | h <;> cases (show (none : Option Nat) = some _ from h)) ⟨rfl, rfl⟩ chX9_transitionCount (pvOkM_ex okX9_transitionCount frX9_transitionCount)
theorem pnX9_transition : pvPn yX9_transition = some 3 := by decide +kernel
theorem caX9_transition {l : Launch} (hf : l.stackTraces = false) : pvCaOk l mX9_transition "EventClockWorkbench" pvTb 58 aX9_transition := by
  refine pvCaOk_i fun ix n b ci co C h => ?_
  unfold aX9_transition at h
  split at h
  · cases h; exact pvCe_S (metX9_requireIndex hf) rfl wd_1_1 rfl wd_2_142 wd_2_143 pnX9_requireIndex wd_2_144
  · cases h; exact pvCe_V (k := 1) (T := TX9) (N := 11) (metX9_automaton hf) rfl wd_1_1 rfl wd_2_184 wd_2_186 ps_1_5 pnX9_automaton rfl wd_2_187
  · cases h; exact pvCe_V (k := 2) (T := TX9) (N := 11) (metX9_requireTransition hf) rfl wd_1_1 rfl wd_3_7 wd_3_9 ps_1_10 pnX9_requireTransition rfl wd_3_10
  · cases h; exact pvCe_V (k := 2) (T := TX0) (N := 1) (metX0_cell hf) rfl wd_1_2 rfl wd_3_87 wd_2_230 wd_2_231 pnX0_cell rfl wd_2_232
  · cases h
set_option maxRecDepth 100000 in
theorem chX9_transition : ∀ pc, pvChain cX9_transition pc (bX9_transition pc) := by
  intro pc
  unfold bX9_transition
  split <;> first | exact True.intro | exact pvChain_of (by decide +kernel)
theorem frX9_transition : ∀ pc, (bX9_transition pc).all (fun q => pvFrB eX9 q.1) = true := by
  intro pc
  unfold bX9_transition
  split <;> rfl
theorem metX9_transition {l : Launch} (hf : l.stackTraces = false) : pvMet l yX9_transition (Cond.code yX9_transition cX9_transition 4 (some .int) :: pvTb) mX9_transition C_X9_transition :=
  pvMet_of hf (y := yX9_transition) plX9 pvTb_g coX9 foX9 pvCl (caX9_transition hf) pvExOk_0 (fun ix h => by rcases h with h | h <;> cases (show (none : Option Nat) = some _ from h)) ⟨rfl, rfl⟩ chX9_transition (pvOkM_ex okX9_transition frX9_transition)
theorem pnX9_constraint : pvPn yX9_constraint = some 4 := by decide +kernel
theorem caX9_constraint {l : Launch} (hf : l.stackTraces = false) : pvCaOk l mX9_constraint "EventClockWorkbench" pvTb 58 aX9_constraint := by
  refine pvCaOk_i fun ix n b ci co C h => ?_
  unfold aX9_constraint at h
  split at h
  · cases h; exact pvCe_S (metX9_requireIndex hf) rfl wd_1_1 rfl wd_2_142 wd_2_143 pnX9_requireIndex wd_2_144
  · cases h; exact pvCe_V (k := 1) (T := TX9) (N := 11) (metX9_automaton hf) rfl wd_1_1 rfl wd_2_184 wd_2_186 ps_1_5 pnX9_automaton rfl wd_2_187
  · cases h; exact pvCe_V (k := 2) (T := TX9) (N := 11) (metX9_requireTransition hf) rfl wd_1_1 rfl wd_3_7 wd_3_9 ps_1_10 pnX9_requireTransition rfl wd_3_10
  · cases h; exact pvCe_V (k := 1) (T := TX0) (N := 1) (metX0_guardSize hf) rfl wd_1_2 rfl wd_3_95 wd_3_96 wd_3_97 pnX0_guardSize rfl wd_3_98
  · cases h; exact pvCe_V (k := 3) (T := TX0) (N := 1) (metX0_constraintCell hf) rfl wd_1_2 rfl wd_3_99 wd_2_226 wd_2_227 pnX0_constraintCell rfl wd_2_228
  · cases h
set_option maxRecDepth 100000 in
theorem chX9_constraint : ∀ pc, pvChain cX9_constraint pc (bX9_constraint pc) := by
  intro pc
  unfold bX9_constraint
  split <;> first | exact True.intro | exact pvChain_of (by decide +kernel)
theorem frX9_constraint : ∀ pc, (bX9_constraint pc).all (fun q => pvFrB eX9 q.1) = true := by
  intro pc
  unfold bX9_constraint
  split <;> rfl
theorem metX9_constraint {l : Launch} (hf : l.stackTraces = false) : pvMet l yX9_constraint (Cond.code yX9_constraint cX9_constraint 5 (some .int) :: pvTb) mX9_constraint C_X9_constraint :=
  pvMet_of hf (y := yX9_constraint) plX9 pvTb_g coX9 foX9 pvCl (caX9_constraint hf) pvExOk_0 (fun ix h => by rcases h with h | h <;> cases (show (none : Option Nat) = some _ from h)) ⟨rfl, rfl⟩ chX9_constraint (pvOkM_ex okX9_constraint frX9_constraint)
theorem pnX9_satisfyingValuations : pvPn yX9_satisfyingValuations = some 2 := by decide +kernel
theorem caX9_satisfyingValuations {l : Launch} (hf : l.stackTraces = false) : pvCaOk l mX9_satisfyingValuations "EventClockWorkbench" pvTb 58 aX9_satisfyingValuations := by
  refine pvCaOk_i fun ix n b ci co C h => ?_
  unfold aX9_satisfyingValuations at h
  split at h
  · cases h; exact pvCe_V (k := 1) (T := TX9) (N := 11) (metX9_automaton hf) rfl wd_1_1 rfl wd_2_184 wd_2_186 ps_1_5 pnX9_automaton rfl wd_2_187
  · cases h; exact pvCe_V (k := 2) (T := TX9) (N := 11) (metX9_requireTransition hf) rfl wd_1_1 rfl wd_3_7 wd_3_9 ps_1_10 pnX9_requireTransition rfl wd_3_10
  · cases h; exact pvCe_V (k := 1) (T := TX0) (N := 1) (metX0_allowed hf) rfl wd_1_2 rfl wd_3_107 wd_3_108 wd_3_109 pnX0_allowed rfl wd_3_110
  · cases h; exact pvCe_S (metX7_countAllowed hf) rfl wd_1_19 rfl wd_3_111 wd_3_112 pnX7_countAllowed wd_3_113
  · cases h
set_option maxRecDepth 100000 in
theorem chX9_satisfyingValuations : ∀ pc, pvChain cX9_satisfyingValuations pc (bX9_satisfyingValuations pc) := by
  intro pc
  unfold bX9_satisfyingValuations
  split <;> first | exact True.intro | exact pvChain_of (by decide +kernel)
theorem frX9_satisfyingValuations : ∀ pc, (bX9_satisfyingValuations pc).all (fun q => pvFrB eX9 q.1) = true := by
  intro pc
  unfold bX9_satisfyingValuations
  split <;> rfl
theorem metX9_satisfyingValuations {l : Launch} (hf : l.stackTraces = false) : pvMet l yX9_satisfyingValuations (Cond.code yX9_satisfyingValuations cX9_satisfyingValuations 3 (some .int) :: pvTb) mX9_satisfyingValuations C_X9_satisfyingValuations :=
  pvMet_of hf (y := yX9_satisfyingValuations) plX9 pvTb_g coX9 foX9 pvCl (caX9_satisfyingValuations hf) pvExOk_0 (fun ix h => by rcases h with h | h <;> cases (show (none : Option Nat) = some _ from h)) ⟨rfl, rfl⟩ chX9_satisfyingValuations (pvOkM_ex okX9_satisfyingValuations frX9_satisfyingValuations)
theorem pnX9_appendEvent : pvPn yX9_appendEvent = some 2 := by decide +kernel
theorem caX9_appendEvent {l : Launch} (hf : l.stackTraces = false) : pvCaOk l mX9_appendEvent "EventClockWorkbench" pvTb 58 aX9_appendEvent := by
  refine pvCaOk_i fun ix n b ci co C h => ?_
  unfold aX9_appendEvent at h
  split at h
  · cases h; exact pvCe_S (metX9_isBetween hf) rfl wd_1_1 rfl wd_2_37 wd_2_38 pnX9_isBetween wd_2_39
  · cases h; exact pvCe_S (metX9_requireArgument hf) rfl wd_1_1 rfl wd_2_40 wd_2_41 pnX9_requireArgument wd_2_42
  · cases h; exact pvCe_S (metX9_requireState hf) rfl wd_1_1 rfl wd_2_111 wd_2_112 pnX9_requireState wd_2_113
  · cases h; exact pvCe_V (k := 2) (T := TX6) (N := 5) (metX6_append hf) rfl wd_1_5 rfl wd_3_127 wd_3_128 wd_3_129 pnX6_append rfl wd_3_130
  · cases h
set_option maxRecDepth 100000 in
theorem chX9_appendEvent : ∀ pc, pvChain cX9_appendEvent pc (bX9_appendEvent pc) := by
  intro pc
  unfold bX9_appendEvent
  split <;> first | exact True.intro | exact pvChain_of (by decide +kernel)
theorem frX9_appendEvent : ∀ pc, (bX9_appendEvent pc).all (fun q => pvFrB eX9 q.1) = true := by
  intro pc
  unfold bX9_appendEvent
  split <;> rfl
theorem metX9_appendEvent {l : Launch} (hf : l.stackTraces = false) : pvMet l yX9_appendEvent (Cond.code yX9_appendEvent cX9_appendEvent 3 (some .int) :: pvTb) mX9_appendEvent C_X9_appendEvent :=
  pvMet_of hf (y := yX9_appendEvent) plX9 pvTb_g coX9 foX9 pvCl (caX9_appendEvent hf) pvExOk_0 (fun ix h => by rcases h with h | h <;> cases (show (none : Option Nat) = some _ from h)) ⟨rfl, rfl⟩ chX9_appendEvent (pvOkM_ex okX9_appendEvent frX9_appendEvent)
theorem pnX9_clearWord : pvPn yX9_clearWord = some 0 := by decide +kernel
theorem caX9_clearWord {l : Launch} (hf : l.stackTraces = false) : pvCaOk l mX9_clearWord "EventClockWorkbench" pvTb 58 aX9_clearWord := by
  refine pvCaOk_i fun ix n b ci co C h => ?_
  unfold aX9_clearWord at h
  split at h
  · cases h; exact pvCe_V (k := 0) (T := TX6) (N := 5) (metX6_clear hf) rfl wd_1_5 rfl wd_2_2 wd_2_3 wd_2_4 pnX6_clear rfl wd_2_5
  · cases h
set_option maxRecDepth 100000 in
theorem chX9_clearWord : ∀ pc, pvChain cX9_clearWord pc (bX9_clearWord pc) := by
  intro pc
  unfold bX9_clearWord
  split <;> first | exact True.intro | exact pvChain_of (by decide +kernel)
theorem frX9_clearWord : ∀ pc, (bX9_clearWord pc).all (fun q => pvFrB eX9 q.1) = true := by
  intro pc
  unfold bX9_clearWord
  split <;> rfl
theorem metX9_clearWord {l : Launch} (hf : l.stackTraces = false) : pvMet l yX9_clearWord (Cond.code yX9_clearWord cX9_clearWord 2 (some .int) :: pvTb) mX9_clearWord C_X9_clearWord :=
  pvMet_of hf (y := yX9_clearWord) plX9 pvTb_g coX9 foX9 pvCl (caX9_clearWord hf) pvExOk_0 (fun ix h => by rcases h with h | h <;> cases (show (none : Option Nat) = some _ from h)) ⟨rfl, rfl⟩ chX9_clearWord (pvOkM_ex okX9_clearWord frX9_clearWord)
theorem pnX9_wordLength : pvPn yX9_wordLength = some 0 := by decide +kernel
theorem caX9_wordLength {l : Launch} (hf : l.stackTraces = false) : pvCaOk l mX9_wordLength "EventClockWorkbench" pvTb 58 aX9_wordLength := by
  exact fun ix n b ci co C h => nomatch (show (none : Option (Nat × Bool × Nat × Nat × pvC)) = some (n, b, ci, co, C) from h)
set_option maxRecDepth 100000 in
theorem chX9_wordLength : ∀ pc, pvChain cX9_wordLength pc (bX9_wordLength pc) := by
  intro pc
  unfold bX9_wordLength
  split <;> first | exact True.intro | exact pvChain_of (by decide +kernel)
theorem frX9_wordLength : ∀ pc, (bX9_wordLength pc).all (fun q => pvFrB eX9 q.1) = true := by
  intro pc
  unfold bX9_wordLength
  split <;> rfl
theorem metX9_wordLength {l : Launch} (hf : l.stackTraces = false) : pvMet l yX9_wordLength (Cond.code yX9_wordLength cX9_wordLength 1 (some .int) :: pvTb) mX9_wordLength C_X9_wordLength :=
  pvMet_of hf (y := yX9_wordLength) plX9 pvTb_g coX9 foX9 pvCl (caX9_wordLength hf) pvExOk_0 (fun ix h => by rcases h with h | h <;> cases (show (none : Option Nat) = some _ from h)) ⟨rfl, rfl⟩ chX9_wordLength (pvOkM_ex okX9_wordLength frX9_wordLength)
theorem pnX9_event : pvPn yX9_event = some 2 := by decide +kernel
theorem caX9_event {l : Launch} (hf : l.stackTraces = false) : pvCaOk l mX9_event "EventClockWorkbench" pvTb 58 aX9_event := by
  refine pvCaOk_i fun ix n b ci co C h => ?_
  unfold aX9_event at h
  split at h
  · cases h; exact pvCe_S (metX9_requireIndex hf) rfl wd_1_1 rfl wd_2_142 wd_2_143 pnX9_requireIndex wd_2_144
  · cases h; exact pvCe_V (k := 1) (T := TX6) (N := 5) (metX6_delayAt hf) rfl wd_1_5 rfl wd_3_148 wd_3_149 wd_3_150 pnX6_delayAt rfl wd_3_151
  · cases h; exact pvCe_V (k := 1) (T := TX6) (N := 5) (metX6_letterAt hf) rfl wd_1_5 rfl wd_3_152 wd_3_153 wd_3_154 pnX6_letterAt rfl wd_3_155
  · cases h
set_option maxRecDepth 100000 in
theorem chX9_event : ∀ pc, pvChain cX9_event pc (bX9_event pc) := by
  intro pc
  unfold bX9_event
  split <;> first | exact True.intro | exact pvChain_of (by decide +kernel)
theorem frX9_event : ∀ pc, (bX9_event pc).all (fun q => pvFrB eX9 q.1) = true := by
  intro pc
  unfold bX9_event
  split <;> rfl
theorem metX9_event {l : Launch} (hf : l.stackTraces = false) : pvMet l yX9_event (Cond.code yX9_event cX9_event 3 (some .int) :: pvTb) mX9_event C_X9_event :=
  pvMet_of hf (y := yX9_event) plX9 pvTb_g coX9 foX9 pvCl (caX9_event hf) pvExOk_0 (fun ix h => by rcases h with h | h <;> cases (show (none : Option Nat) = some _ from h)) ⟨rfl, rfl⟩ chX9_event (pvOkM_ex okX9_event frX9_event)
theorem pnX9_valuationBefore : pvPn yX9_valuationBefore = some 1 := by decide +kernel
theorem caX9_valuationBefore {l : Launch} (hf : l.stackTraces = false) : pvCaOk l mX9_valuationBefore "EventClockWorkbench" pvTb 58 aX9_valuationBefore := by
  refine pvCaOk_i fun ix n b ci co C h => ?_
  unfold aX9_valuationBefore at h
  split at h
  · cases h; exact pvCe_S (metX9_requireIndex hf) rfl wd_1_1 rfl wd_2_142 wd_2_143 pnX9_requireIndex wd_2_144
  · cases h; exact pvCe_V (k := 1) (T := TX6) (N := 5) (metX6_valuationAt hf) rfl wd_1_5 rfl wd_3_163 wd_3_164 wd_3_165 pnX6_valuationAt rfl wd_3_166
  · cases h; exact pvCe_S (metX7_written hf) rfl wd_1_19 rfl wd_3_167 wd_3_168 pnX7_written wd_3_169
  · cases h
set_option maxRecDepth 100000 in
theorem chX9_valuationBefore : ∀ pc, pvChain cX9_valuationBefore pc (bX9_valuationBefore pc) := by
  intro pc
  unfold bX9_valuationBefore
  split <;> first | exact True.intro | exact pvChain_of (by decide +kernel)
theorem frX9_valuationBefore : ∀ pc, (bX9_valuationBefore pc).all (fun q => pvFrB eX9 q.1) = true := by
  intro pc
  unfold bX9_valuationBefore
  split <;> rfl
theorem metX9_valuationBefore {l : Launch} (hf : l.stackTraces = false) : pvMet l yX9_valuationBefore (Cond.code yX9_valuationBefore cX9_valuationBefore 2 (some .int) :: pvTb) mX9_valuationBefore C_X9_valuationBefore :=
  pvMet_of hf (y := yX9_valuationBefore) plX9 pvTb_g coX9 foX9 pvCl (caX9_valuationBefore hf) pvExOk_0 (fun ix h => by rcases h with h | h <;> cases (show (none : Option Nat) = some _ from h)) ⟨rfl, rfl⟩ chX9_valuationBefore (pvOkM_ex okX9_valuationBefore frX9_valuationBefore)
theorem pnX9_statesAfter : pvPn yX9_statesAfter = some 2 := by decide +kernel
theorem caX9_statesAfter {l : Launch} (hf : l.stackTraces = false) : pvCaOk l mX9_statesAfter "EventClockWorkbench" pvTb 58 aX9_statesAfter := by
  refine pvCaOk_i fun ix n b ci co C h => ?_
  unfold aX9_statesAfter at h
  split at h
  · cases h; exact pvCe_S (metX9_requireIndex hf) rfl wd_1_1 rfl wd_2_142 wd_2_143 pnX9_requireIndex wd_2_144
  · cases h; exact pvCe_V (k := 1) (T := TX9) (N := 11) (metX9_automaton hf) rfl wd_1_1 rfl wd_2_184 wd_2_186 ps_1_5 pnX9_automaton rfl wd_2_187
  · cases h; exact pvCe_V (k := 2) (T := TX0) (N := 1) (metX0_statesAfterEvents hf) rfl wd_1_2 rfl wd_3_180 wd_3_181 wd_3_182 pnX0_statesAfterEvents rfl wd_3_183
  · cases h
set_option maxRecDepth 100000 in
theorem chX9_statesAfter : ∀ pc, pvChain cX9_statesAfter pc (bX9_statesAfter pc) := by
  intro pc
  unfold bX9_statesAfter
  split <;> first | exact True.intro | exact pvChain_of (by decide +kernel)
theorem frX9_statesAfter : ∀ pc, (bX9_statesAfter pc).all (fun q => pvFrB eX9 q.1) = true := by
  intro pc
  unfold bX9_statesAfter
  split <;> rfl
theorem metX9_statesAfter {l : Launch} (hf : l.stackTraces = false) : pvMet l yX9_statesAfter (Cond.code yX9_statesAfter cX9_statesAfter 3 (some .int) :: pvTb) mX9_statesAfter C_X9_statesAfter :=
  pvMet_of hf (y := yX9_statesAfter) plX9 pvTb_g coX9 foX9 pvCl (caX9_statesAfter hf) pvExOk_0 (fun ix h => by rcases h with h | h <;> cases (show (none : Option Nat) = some _ from h)) ⟨rfl, rfl⟩ chX9_statesAfter (pvOkM_ex okX9_statesAfter frX9_statesAfter)
theorem pnX9_accepts : pvPn yX9_accepts = some 1 := by decide +kernel
theorem caX9_accepts {l : Launch} (hf : l.stackTraces = false) : pvCaOk l mX9_accepts "EventClockWorkbench" pvTb 58 aX9_accepts := by
  refine pvCaOk_i fun ix n b ci co C h => ?_
  unfold aX9_accepts at h
  split at h
  · cases h; exact pvCe_S (metX9_requireIndex hf) rfl wd_1_1 rfl wd_2_142 wd_2_143 pnX9_requireIndex wd_2_144
  · cases h; exact pvCe_V (k := 1) (T := TX9) (N := 11) (metX9_automaton hf) rfl wd_1_1 rfl wd_2_184 wd_2_186 ps_1_5 pnX9_automaton rfl wd_2_187
  · cases h; exact pvCe_V (k := 0) (T := TX0) (N := 1) (metX0_finalStates hf) rfl wd_1_2 rfl wd_3_43 wd_3_44 wd_3_45 pnX0_finalStates rfl wd_3_46
  · cases h; exact pvCe_V (k := 2) (T := TX0) (N := 1) (metX0_statesAfterEvents hf) rfl wd_1_2 rfl wd_3_180 wd_3_181 wd_3_182 pnX0_statesAfterEvents rfl wd_3_183
  · cases h
set_option maxRecDepth 100000 in
theorem chX9_accepts : ∀ pc, pvChain cX9_accepts pc (bX9_accepts pc) := by
  intro pc
  unfold bX9_accepts
  split <;> first | exact True.intro | exact pvChain_of (by decide +kernel)
theorem frX9_accepts : ∀ pc, (bX9_accepts pc).all (fun q => pvFrB eX9 q.1) = true := by
  intro pc
  unfold bX9_accepts
  split <;> rfl
theorem metX9_accepts {l : Launch} (hf : l.stackTraces = false) : pvMet l yX9_accepts (Cond.code yX9_accepts cX9_accepts 3 (some .boolean) :: pvTb) mX9_accepts C_X9_accepts :=
  pvMet_of hf (y := yX9_accepts) plX9 pvTb_g coX9 foX9 pvCl (caX9_accepts hf) pvExOk_0 (fun ix h => by rcases h with h | h <;> cases (show (none : Option Nat) = some _ from h)) ⟨rfl, rfl⟩ chX9_accepts (pvOkM_ex okX9_accepts frX9_accepts)
theorem pnX9_runCount : pvPn yX9_runCount = some 1 := by decide +kernel
theorem caX9_runCount {l : Launch} (hf : l.stackTraces = false) : pvCaOk l mX9_runCount "EventClockWorkbench" pvTb 58 aX9_runCount := by
  refine pvCaOk_i fun ix n b ci co C h => ?_
  unfold aX9_runCount at h
  split at h
  · cases h; exact pvCe_S (metX9_requireIndex hf) rfl wd_1_1 rfl wd_2_142 wd_2_143 pnX9_requireIndex wd_2_144
  · cases h; exact pvCe_V (k := 1) (T := TX9) (N := 11) (metX9_automaton hf) rfl wd_1_1 rfl wd_2_184 wd_2_186 ps_1_5 pnX9_automaton rfl wd_2_187
  · cases h; exact pvCe_V (k := 3) (T := TX4) (N := 3) (metX4_count hf) rfl wd_1_6 rfl wd_3_218 wd_3_219 wd_3_220 pnX4_count rfl wd_3_221
  · cases h
set_option maxRecDepth 100000 in
theorem chX9_runCount : ∀ pc, pvChain cX9_runCount pc (bX9_runCount pc) := by
  intro pc
  unfold bX9_runCount
  split <;> first | exact True.intro | exact pvChain_of (by decide +kernel)
theorem frX9_runCount : ∀ pc, (bX9_runCount pc).all (fun q => pvFrB eX9 q.1) = true := by
  intro pc
  unfold bX9_runCount
  split <;> rfl
theorem metX9_runCount {l : Launch} (hf : l.stackTraces = false) : pvMet l yX9_runCount (Cond.code yX9_runCount cX9_runCount 2 (some .long) :: pvTb) mX9_runCount C_X9_runCount :=
  pvMet_of hf (y := yX9_runCount) plX9 pvTb_g coX9 foX9 pvCl (caX9_runCount hf) pvExOk_0 (fun ix h => by rcases h with h | h <;> cases (show (none : Option Nat) = some _ from h)) ⟨rfl, rfl⟩ chX9_runCount (pvOkM_ex okX9_runCount frX9_runCount)
theorem pnX9_acceptingRuns : pvPn yX9_acceptingRuns = some 1 := by decide +kernel
theorem caX9_acceptingRuns {l : Launch} (hf : l.stackTraces = false) : pvCaOk l mX9_acceptingRuns "EventClockWorkbench" pvTb 58 aX9_acceptingRuns := by
  refine pvCaOk_i fun ix n b ci co C h => ?_
  unfold aX9_acceptingRuns at h
  split at h
  · cases h; exact pvCe_S (metX9_requireIndex hf) rfl wd_1_1 rfl wd_2_142 wd_2_143 pnX9_requireIndex wd_2_144
  · cases h; exact pvCe_V (k := 1) (T := TX9) (N := 11) (metX9_automaton hf) rfl wd_1_1 rfl wd_2_184 wd_2_186 ps_1_5 pnX9_automaton rfl wd_2_187
  · cases h; exact pvCe_V (k := 0) (T := TX0) (N := 1) (metX0_finalStates hf) rfl wd_1_2 rfl wd_3_43 wd_3_44 wd_3_45 pnX0_finalStates rfl wd_3_46
  · cases h; exact pvCe_V (k := 3) (T := TX4) (N := 3) (metX4_count hf) rfl wd_1_6 rfl wd_3_218 wd_3_219 wd_3_220 pnX4_count rfl wd_3_221
  · cases h
set_option maxRecDepth 100000 in
theorem chX9_acceptingRuns : ∀ pc, pvChain cX9_acceptingRuns pc (bX9_acceptingRuns pc) := by
  intro pc
  unfold bX9_acceptingRuns
  split <;> first | exact True.intro | exact pvChain_of (by decide +kernel)
theorem frX9_acceptingRuns : ∀ pc, (bX9_acceptingRuns pc).all (fun q => pvFrB eX9 q.1) = true := by
  intro pc
  unfold bX9_acceptingRuns
  split <;> rfl
theorem metX9_acceptingRuns {l : Launch} (hf : l.stackTraces = false) : pvMet l yX9_acceptingRuns (Cond.code yX9_acceptingRuns cX9_acceptingRuns 2 (some .long) :: pvTb) mX9_acceptingRuns C_X9_acceptingRuns :=
  pvMet_of hf (y := yX9_acceptingRuns) plX9 pvTb_g coX9 foX9 pvCl (caX9_acceptingRuns hf) pvExOk_0 (fun ix h => by rcases h with h | h <;> cases (show (none : Option Nat) = some _ from h)) ⟨rfl, rfl⟩ chX9_acceptingRuns (pvOkM_ex okX9_acceptingRuns frX9_acceptingRuns)
theorem pnX9_requireElement : pvPn yX9_requireElement = some 1 := by decide +kernel
theorem caX9_requireElement {l : Launch} (hf : l.stackTraces = false) : pvCaOk l mX9_requireElement "EventClockWorkbench" pvTb 58 aX9_requireElement := by
  exact fun ix n b ci co C h => nomatch (show (none : Option (Nat × Bool × Nat × Nat × pvC)) = some (n, b, ci, co, C) from h)
set_option maxRecDepth 100000 in
theorem chX9_requireElement : ∀ pc, pvChain cX9_requireElement pc (bX9_requireElement pc) := by
  intro pc
  unfold bX9_requireElement
  split <;> first | exact True.intro | exact pvChain_of (by decide +kernel)
theorem nwX9_requireElement : ∀ pc ix, decode cX9_requireElement pc = .ok (.new ix, 3) → pc = 4 ∧ ix = 315 := by
  intro pc ix h
  by_cases hs : pc < cX9_requireElement.size
  · have hq := List.all_eq_true.mp (show (List.range cX9_requireElement.size).all (fun q => match decode cX9_requireElement q with | .ok (.new j, _) => decide (q = 4 ∧ j = 315) | _ => true) = true from by decide +kernel) pc (List.mem_range.mpr hs)
    rw [h] at hq
    exact of_decide_eq_true hq
  · exact absurd h (dec_oob (by omega))
theorem exX9_requireElement : pvExOk "EventClockWorkbench" cX9_requireElement pvTb eX9 mX9_requireElement := by
  intro ix ic k pc hE hk hd hd4
  obtain ⟨rfl, rfl⟩ := nwX9_requireElement pc ix hd
  rw [show decode cX9_requireElement (4 + 4) = .ok (.invokespecial 317, 3) from by decide +kernel] at hd4
  cases hd4
  cases (show some 3 = some k from hE)
  refine ⟨wd_4_34, wd_1_21, ?_, ?_, ?_, by decide, by decide⟩
  · intro w hw
    rw [show (vx_at0 "EventClockWorkbench" 317 (pvXn 3) ["java/lang/RuntimeException", "java/lang/Exception"]).filter goodWord = ([(Jvm.Cond.initialized "java/lang/Throwable"), (Jvm.Cond.superclass "java/lang/Throwable" "java/lang/Object"), (Jvm.Cond.instanceMethod ({ cls := "java/lang/Throwable", name := "fillInStackTrace", desc := "()Ljava/lang/Throwable;" } : Jvm.MethodName)), (Jvm.Cond.codeSync ({ cls := "java/lang/Throwable", name := "fillInStackTrace", desc := "()Ljava/lang/Throwable;" } : Jvm.MethodName) prog_22_method_18_code (1 : Nat) (Option.some (Jvm.ClassFile.FieldType.object "java/lang/Throwable"))), (Jvm.Cond.instanceMethod ({ cls := "java/lang/Throwable", name := "fillInStackTrace", desc := "(I)Ljava/lang/Throwable;" } : Jvm.MethodName)), (Jvm.Cond.native ({ cls := "java/lang/Throwable", name := "fillInStackTrace", desc := "(I)Ljava/lang/Throwable;" } : Jvm.MethodName)), (Jvm.Cond.instanceMethod ({ cls := "java/lang/Throwable", name := "<init>", desc := "()V" } : Jvm.MethodName)), (Jvm.Cond.code ({ cls := "java/lang/Throwable", name := "<init>", desc := "()V" } : Jvm.MethodName) prog_22_method_1_code (1 : Nat) (Option.none : Option Jvm.ClassFile.FieldType)), (Jvm.Cond.instanceMethod ({ cls := "java/lang/Object", name := "<init>", desc := "()V" } : Jvm.MethodName)), (Jvm.Cond.code ({ cls := "java/lang/Object", name := "<init>", desc := "()V" } : Jvm.MethodName) object_method_1_code (1 : Nat) (Option.none : Option Jvm.ClassFile.FieldType)), (Jvm.Cond.methodLink "java/lang/Throwable" (1 : Nat) ({ cls := "java/lang/Object", name := "<init>", desc := "()V" } : Jvm.MethodName)), (Jvm.Cond.methodLink "java/lang/Throwable" (27 : Nat) ({ cls := "java/lang/Throwable", name := "fillInStackTrace", desc := "()Ljava/lang/Throwable;" } : Jvm.MethodName)), (Jvm.Cond.methodLink "java/lang/Throwable" (202 : Nat) ({ cls := "java/lang/Throwable", name := "fillInStackTrace", desc := "(I)Ljava/lang/Throwable;" } : Jvm.MethodName)), (Jvm.Cond.fieldLink "java/lang/Throwable" (7 : Nat) "java/lang/Throwable" "cause" "Ljava/lang/Throwable;"), (Jvm.Cond.lays "java/lang/Throwable" "java/lang/Throwable" "cause" "Ljava/lang/Throwable;"), (Jvm.Cond.fieldLink "java/lang/Throwable" (17 : Nat) "java/lang/Throwable" "stackTrace" "[Ljava/lang/StackTraceElement;"), (Jvm.Cond.lays "java/lang/Throwable" "java/lang/Throwable" "stackTrace" "[Ljava/lang/StackTraceElement;"), (Jvm.Cond.fieldLink "java/lang/Throwable" (24 : Nat) "java/lang/Throwable" "suppressedExceptions" "Ljava/util/List;"), (Jvm.Cond.lays "java/lang/Throwable" "java/lang/Throwable" "suppressedExceptions" "Ljava/util/List;"), (Jvm.Cond.fieldLink "java/lang/Throwable" (13 : Nat) "java/lang/Throwable" "UNASSIGNED_STACK" "[Ljava/lang/StackTraceElement;"), (Jvm.Cond.fieldLink "java/lang/Throwable" (20 : Nat) "java/lang/Throwable" "SUPPRESSED_SENTINEL" "Ljava/util/List;"), (Jvm.Cond.lays "java/lang/Throwable" "java/lang/Throwable" "detailMessage" "Ljava/lang/String;"), (Jvm.Cond.instanceMethod ({ cls := "java/util/NoSuchElementException", name := "<init>", desc := "()V" } : Jvm.MethodName)), (Jvm.Cond.code ({ cls := "java/util/NoSuchElementException", name := "<init>", desc := "()V" } : Jvm.MethodName) prog_23_method_1_code (1 : Nat) (Option.none : Option Jvm.ClassFile.FieldType)), (Jvm.Cond.methodLink "java/util/NoSuchElementException" (1 : Nat) ({ cls := "java/lang/RuntimeException", name := "<init>", desc := "()V" } : Jvm.MethodName)), (Jvm.Cond.instanceMethod ({ cls := "java/lang/RuntimeException", name := "<init>", desc := "()V" } : Jvm.MethodName)), (Jvm.Cond.instanceMethod ({ cls := "java/lang/RuntimeException", name := "<init>", desc := "()V" } : Jvm.MethodName)), (Jvm.Cond.code ({ cls := "java/lang/RuntimeException", name := "<init>", desc := "()V" } : Jvm.MethodName) prog_20_method_1_code (1 : Nat) (Option.none : Option Jvm.ClassFile.FieldType)), (Jvm.Cond.methodLink "java/lang/RuntimeException" (1 : Nat) ({ cls := "java/lang/Exception", name := "<init>", desc := "()V" } : Jvm.MethodName)), (Jvm.Cond.instanceMethod ({ cls := "java/lang/Exception", name := "<init>", desc := "()V" } : Jvm.MethodName)), (Jvm.Cond.instanceMethod ({ cls := "java/lang/Exception", name := "<init>", desc := "()V" } : Jvm.MethodName)), (Jvm.Cond.code ({ cls := "java/lang/Exception", name := "<init>", desc := "()V" } : Jvm.MethodName) prog_14_method_1_code (1 : Nat) (Option.none : Option Jvm.ClassFile.FieldType)), (Jvm.Cond.methodLink "java/lang/Exception" (1 : Nat) ({ cls := "java/lang/Throwable", name := "<init>", desc := "()V" } : Jvm.MethodName)), (Jvm.Cond.instanceMethod ({ cls := "java/lang/Throwable", name := "<init>", desc := "()V" } : Jvm.MethodName)), (Jvm.Cond.methodLink "EventClockWorkbench" (317 : Nat) ({ cls := "java/util/NoSuchElementException", name := "<init>", desc := "()V" } : Jvm.MethodName)), (Jvm.Cond.instantiable "java/util/NoSuchElementException" (6 : Nat)), (Jvm.Cond.selects "java/util/NoSuchElementException" ({ cls := "java/lang/Throwable", name := "fillInStackTrace", desc := "(I)Ljava/lang/Throwable;" } : Jvm.MethodName) ({ cls := "java/lang/Throwable", name := "fillInStackTrace", desc := "(I)Ljava/lang/Throwable;" } : Jvm.MethodName)), (Jvm.Cond.selects "java/util/NoSuchElementException" ({ cls := "java/lang/Throwable", name := "fillInStackTrace", desc := "()Ljava/lang/Throwable;" } : Jvm.MethodName) ({ cls := "java/lang/Throwable", name := "fillInStackTrace", desc := "()Ljava/lang/Throwable;" } : Jvm.MethodName)), (Jvm.Cond.lays "java/util/NoSuchElementException" "java/lang/Throwable" "cause" "Ljava/lang/Throwable;"), (Jvm.Cond.lays "java/util/NoSuchElementException" "java/lang/Throwable" "stackTrace" "[Ljava/lang/StackTraceElement;"), (Jvm.Cond.lays "java/util/NoSuchElementException" "java/lang/Throwable" "suppressedExceptions" "Ljava/util/List;"), (Jvm.Cond.lays "java/util/NoSuchElementException" "java/lang/Throwable" "detailMessage" "Ljava/lang/String;"), (Jvm.Cond.fieldLink "java/lang/Throwable" (198 : Nat) "java/lang/Throwable" "backtrace" "Ljava/lang/Object;"), (Jvm.Cond.lays "java/lang/Throwable" "java/lang/Throwable" "backtrace" "Ljava/lang/Object;"), (Jvm.Cond.lays "java/util/NoSuchElementException" "java/lang/Throwable" "backtrace" "Ljava/lang/Object;")] : List Jvm.Cond) from by decide +kernel] at hw
    exact (List.forall_mem_cons.mpr ⟨wd_1_11, List.forall_mem_cons.mpr ⟨wd_2_65, List.forall_mem_cons.mpr ⟨wd_2_74, List.forall_mem_cons.mpr ⟨wd_2_79, List.forall_mem_cons.mpr ⟨wd_2_82, List.forall_mem_cons.mpr ⟨wd_2_84, List.forall_mem_cons.mpr ⟨wd_2_66, List.forall_mem_cons.mpr ⟨wd_2_67, List.forall_mem_cons.mpr ⟨wd_1_28, List.forall_mem_cons.mpr ⟨wd_1_29, List.forall_mem_cons.mpr ⟨wd_2_68, List.forall_mem_cons.mpr ⟨wd_2_73, List.forall_mem_cons.mpr ⟨wd_2_80, List.forall_mem_cons.mpr ⟨wd_2_96, List.forall_mem_cons.mpr ⟨wd_2_55, List.forall_mem_cons.mpr ⟨wd_2_97, List.forall_mem_cons.mpr ⟨wd_2_57, List.forall_mem_cons.mpr ⟨wd_2_98, List.forall_mem_cons.mpr ⟨wd_2_59, List.forall_mem_cons.mpr ⟨wd_2_69, List.forall_mem_cons.mpr ⟨wd_2_71, List.forall_mem_cons.mpr ⟨wd_2_61, List.forall_mem_cons.mpr ⟨wd_4_44, List.forall_mem_cons.mpr ⟨wd_4_45, List.forall_mem_cons.mpr ⟨wd_4_46, List.forall_mem_cons.mpr ⟨wd_2_89, List.forall_mem_cons.mpr ⟨wd_2_89, List.forall_mem_cons.mpr ⟨wd_2_90, List.forall_mem_cons.mpr ⟨wd_2_91, List.forall_mem_cons.mpr ⟨wd_2_92, List.forall_mem_cons.mpr ⟨wd_2_92, List.forall_mem_cons.mpr ⟨wd_2_93, List.forall_mem_cons.mpr ⟨wd_2_94, List.forall_mem_cons.mpr ⟨wd_2_66, List.forall_mem_cons.mpr ⟨wd_4_43, List.forall_mem_cons.mpr ⟨wd_4_35, List.forall_mem_cons.mpr ⟨wd_4_37, List.forall_mem_cons.mpr ⟨wd_2_78, List.forall_mem_cons.mpr ⟨wd_4_38, List.forall_mem_cons.mpr ⟨wd_4_39, List.forall_mem_cons.mpr ⟨wd_4_40, List.forall_mem_cons.mpr ⟨wd_4_41, List.forall_mem_cons.mpr ⟨wd_2_64, List.forall_mem_cons.mpr ⟨wd_2_63, List.forall_mem_cons.mpr ⟨wd_4_42, fun _ h => absurd h List.not_mem_nil⟩⟩⟩⟩⟩⟩⟩⟩⟩⟩⟩⟩⟩⟩⟩⟩⟩⟩⟩⟩⟩⟩⟩⟩⟩⟩⟩⟩⟩⟩⟩⟩⟩⟩⟩⟩⟩⟩⟩⟩⟩⟩⟩⟩⟩) w hw
  · decide +kernel
  · decide +kernel
theorem metX9_requireElement {l : Launch} (hf : l.stackTraces = false) : pvMet l yX9_requireElement (Cond.code yX9_requireElement cX9_requireElement 1 none :: pvTb) mX9_requireElement C_X9_requireElement :=
  pvMet_of hf (y := yX9_requireElement) plX9 pvTb_g coX9 foX9 pvCl (caX9_requireElement hf) (exX9_requireElement) (fun ix h => by rcases h with h | h <;> (unfold eX9 at h; split at h <;> cases h)) ⟨rfl, rfl⟩ chX9_requireElement okX9_requireElement
theorem pnX9_firstRun : pvPn yX9_firstRun = some 2 := by decide +kernel
theorem caX9_firstRun {l : Launch} (hf : l.stackTraces = false) : pvCaOk l mX9_firstRun "EventClockWorkbench" pvTb 58 aX9_firstRun := by
  refine pvCaOk_i fun ix n b ci co C h => ?_
  unfold aX9_firstRun at h
  split at h
  · cases h; exact pvCe_S (metX9_requireIndex hf) rfl wd_1_1 rfl wd_2_142 wd_2_143 pnX9_requireIndex wd_2_144
  · cases h; exact pvCe_V (k := 1) (T := TX9) (N := 11) (metX9_automaton hf) rfl wd_1_1 rfl wd_2_184 wd_2_186 ps_1_5 pnX9_automaton rfl wd_2_187
  · cases h; exact pvCe_V (k := 3) (T := TX4) (N := 3) (metX4_first hf) rfl wd_1_6 rfl wd_4_9 wd_4_10 wd_4_11 pnX4_first rfl wd_4_12
  · cases h; exact pvCe_S (metX9_requireElement hf) rfl wd_1_1 rfl wd_4_31 wd_4_32 pnX9_requireElement wd_4_33
  · cases h
set_option maxRecDepth 100000 in
theorem chX9_firstRun : ∀ pc, pvChain cX9_firstRun pc (bX9_firstRun pc) := by
  intro pc
  unfold bX9_firstRun
  split <;> first | exact True.intro | exact pvChain_of (by decide +kernel)
theorem frX9_firstRun : ∀ pc, (bX9_firstRun pc).all (fun q => pvFrB eX9 q.1) = true := by
  intro pc
  unfold bX9_firstRun
  split <;> rfl
theorem metX9_firstRun {l : Launch} (hf : l.stackTraces = false) : pvMet l yX9_firstRun (Cond.code yX9_firstRun cX9_firstRun 4 (some .int) :: pvTb) mX9_firstRun C_X9_firstRun :=
  pvMet_of hf (y := yX9_firstRun) plX9 pvTb_g coX9 foX9 pvCl (caX9_firstRun hf) pvExOk_0 (fun ix h => by rcases h with h | h <;> cases (show (none : Option Nat) = some _ from h)) ⟨rfl, rfl⟩ chX9_firstRun (pvOkM_ex okX9_firstRun frX9_firstRun)
theorem pnX9_stuckAt : pvPn yX9_stuckAt = some 1 := by decide +kernel
theorem caX9_stuckAt {l : Launch} (hf : l.stackTraces = false) : pvCaOk l mX9_stuckAt "EventClockWorkbench" pvTb 58 aX9_stuckAt := by
  refine pvCaOk_i fun ix n b ci co C h => ?_
  unfold aX9_stuckAt at h
  split at h
  · cases h; exact pvCe_S (metX9_requireIndex hf) rfl wd_1_1 rfl wd_2_142 wd_2_143 pnX9_requireIndex wd_2_144
  · cases h; exact pvCe_V (k := 1) (T := TX9) (N := 11) (metX9_automaton hf) rfl wd_1_1 rfl wd_2_184 wd_2_186 ps_1_5 pnX9_automaton rfl wd_2_187
  · cases h; exact pvCe_S (metX9_requireElement hf) rfl wd_1_1 rfl wd_4_31 wd_4_32 pnX9_requireElement wd_4_33
  · cases h; exact pvCe_V (k := 1) (T := TX0) (N := 1) (metX0_firstUnreadable hf) rfl wd_1_2 rfl wd_4_56 wd_4_57 wd_4_58 pnX0_firstUnreadable rfl wd_4_59
  · cases h
set_option maxRecDepth 100000 in
theorem chX9_stuckAt : ∀ pc, pvChain cX9_stuckAt pc (bX9_stuckAt pc) := by
  intro pc
  unfold bX9_stuckAt
  split <;> first | exact True.intro | exact pvChain_of (by decide +kernel)
theorem frX9_stuckAt : ∀ pc, (bX9_stuckAt pc).all (fun q => pvFrB eX9 q.1) = true := by
  intro pc
  unfold bX9_stuckAt
  split <;> rfl
theorem metX9_stuckAt {l : Launch} (hf : l.stackTraces = false) : pvMet l yX9_stuckAt (Cond.code yX9_stuckAt cX9_stuckAt 3 (some .int) :: pvTb) mX9_stuckAt C_X9_stuckAt :=
  pvMet_of hf (y := yX9_stuckAt) plX9 pvTb_g coX9 foX9 pvCl (caX9_stuckAt hf) pvExOk_0 (fun ix h => by rcases h with h | h <;> cases (show (none : Option Nat) = some _ from h)) ⟨rfl, rfl⟩ chX9_stuckAt (pvOkM_ex okX9_stuckAt frX9_stuckAt)
theorem pnX9_blockingConstraint : pvPn yX9_blockingConstraint = some 3 := by decide +kernel
theorem caX9_blockingConstraint {l : Launch} (hf : l.stackTraces = false) : pvCaOk l mX9_blockingConstraint "EventClockWorkbench" pvTb 58 aX9_blockingConstraint := by
  refine pvCaOk_i fun ix n b ci co C h => ?_
  unfold aX9_blockingConstraint at h
  split at h
  · cases h; exact pvCe_S (metX9_requireArgument hf) rfl wd_1_1 rfl wd_2_40 wd_2_41 pnX9_requireArgument wd_2_42
  · cases h; exact pvCe_S (metX9_requireIndex hf) rfl wd_1_1 rfl wd_2_142 wd_2_143 pnX9_requireIndex wd_2_144
  · cases h; exact pvCe_V (k := 1) (T := TX9) (N := 11) (metX9_automaton hf) rfl wd_1_1 rfl wd_2_184 wd_2_186 ps_1_5 pnX9_automaton rfl wd_2_187
  · cases h; exact pvCe_V (k := 2) (T := TX9) (N := 11) (metX9_requireTransition hf) rfl wd_1_1 rfl wd_3_7 wd_3_9 ps_1_10 pnX9_requireTransition rfl wd_3_10
  · cases h; exact pvCe_V (k := 1) (T := TX6) (N := 5) (metX6_letterAt hf) rfl wd_1_5 rfl wd_3_152 wd_3_153 wd_3_154 pnX6_letterAt rfl wd_3_155
  · cases h; exact pvCe_V (k := 1) (T := TX6) (N := 5) (metX6_valuationAt hf) rfl wd_1_5 rfl wd_3_163 wd_3_164 wd_3_165 pnX6_valuationAt rfl wd_3_166
  · cases h; exact pvCe_V (k := 1) (T := TX0) (N := 1) (metX0_letter hf) rfl wd_1_2 rfl wd_4_67 wd_3_197 wd_3_198 pnX0_letter rfl wd_3_199
  · cases h; exact pvCe_V (k := 2) (T := TX0) (N := 1) (metX0_firstUnsatisfied hf) rfl wd_1_2 rfl wd_4_68 wd_4_69 wd_4_70 pnX0_firstUnsatisfied rfl wd_4_71
  · cases h
set_option maxRecDepth 100000 in
theorem chX9_blockingConstraint : ∀ pc, pvChain cX9_blockingConstraint pc (bX9_blockingConstraint pc) := by
  intro pc
  unfold bX9_blockingConstraint
  split <;> first | exact True.intro | exact pvChain_of (by decide +kernel)
theorem frX9_blockingConstraint : ∀ pc, (bX9_blockingConstraint pc).all (fun q => pvFrB eX9 q.1) = true := by
  intro pc
  unfold bX9_blockingConstraint
  split <;> rfl
theorem metX9_blockingConstraint {l : Launch} (hf : l.stackTraces = false) : pvMet l yX9_blockingConstraint (Cond.code yX9_blockingConstraint cX9_blockingConstraint 5 (some .int) :: pvTb) mX9_blockingConstraint C_X9_blockingConstraint :=
  pvMet_of hf (y := yX9_blockingConstraint) plX9 pvTb_g coX9 foX9 pvCl (caX9_blockingConstraint hf) pvExOk_0 (fun ix h => by rcases h with h | h <;> cases (show (none : Option Nat) = some _ from h)) ⟨rfl, rfl⟩ chX9_blockingConstraint (pvOkM_ex okX9_blockingConstraint frX9_blockingConstraint)
theorem pnX9_powerset : pvPn yX9_powerset = some 1 := by decide +kernel
theorem caX9_powerset {l : Launch} (hf : l.stackTraces = false) : pvCaOk l mX9_powerset "EventClockWorkbench" pvTb 58 aX9_powerset := by
  refine pvCaOk_i fun ix n b ci co C h => ?_
  unfold aX9_powerset at h
  split at h
  · cases h; exact pvCe_V (k := 1) (T := TX9) (N := 11) (metX9_automaton hf) rfl wd_1_1 rfl wd_2_184 wd_2_186 ps_1_5 pnX9_automaton rfl wd_2_187
  · cases h; exact pvCe_V (k := 1) (T := TX3) (N := 7) (metX3_refresh hf) rfl wd_1_3 rfl wd_4_87 wd_4_88 wd_4_89 pnX3_refresh rfl wd_4_90
  · cases h
set_option maxRecDepth 100000 in
theorem chX9_powerset : ∀ pc, pvChain cX9_powerset pc (bX9_powerset pc) := by
  intro pc
  unfold bX9_powerset
  split <;> first | exact True.intro | exact pvChain_of (by decide +kernel)
theorem frX9_powerset : ∀ pc, (bX9_powerset pc).all (fun q => pvFrB eX9 q.1) = true := by
  intro pc
  unfold bX9_powerset
  split <;> rfl
theorem metX9_powerset {l : Launch} (hf : l.stackTraces = false) : pvMet l yX9_powerset (Cond.code yX9_powerset cX9_powerset 3 (some (.object "EventClockWorkbench$Powerset")) :: pvTb) mX9_powerset C_X9_powerset :=
  pvMet_of hf (y := yX9_powerset) plX9 pvTb_g coX9 foX9 pvCl (caX9_powerset hf) pvExOk_0 (fun ix h => by rcases h with h | h <;> cases (show (none : Option Nat) = some _ from h)) ⟨rfl, rfl⟩ chX9_powerset (pvOkM_ex okX9_powerset frX9_powerset)
theorem pnX9_deterministicStates : pvPn yX9_deterministicStates = some 1 := by decide +kernel
theorem caX9_deterministicStates {l : Launch} (hf : l.stackTraces = false) : pvCaOk l mX9_deterministicStates "EventClockWorkbench" pvTb 58 aX9_deterministicStates := by
  refine pvCaOk_i fun ix n b ci co C h => ?_
  unfold aX9_deterministicStates at h
  split at h
  · cases h; exact pvCe_S (metX9_requireIndex hf) rfl wd_1_1 rfl wd_2_142 wd_2_143 pnX9_requireIndex wd_2_144
  · cases h; exact pvCe_V (k := 1) (T := TX9) (N := 11) (metX9_powerset hf) rfl wd_1_1 rfl wd_4_83 wd_4_85 ps_1_15 pnX9_powerset rfl wd_4_86
  · cases h
set_option maxRecDepth 100000 in
theorem chX9_deterministicStates : ∀ pc, pvChain cX9_deterministicStates pc (bX9_deterministicStates pc) := by
  intro pc
  unfold bX9_deterministicStates
  split <;> first | exact True.intro | exact pvChain_of (by decide +kernel)
theorem frX9_deterministicStates : ∀ pc, (bX9_deterministicStates pc).all (fun q => pvFrB eX9 q.1) = true := by
  intro pc
  unfold bX9_deterministicStates
  split <;> rfl
theorem metX9_deterministicStates {l : Launch} (hf : l.stackTraces = false) : pvMet l yX9_deterministicStates (Cond.code yX9_deterministicStates cX9_deterministicStates 2 (some .int) :: pvTb) mX9_deterministicStates C_X9_deterministicStates :=
  pvMet_of hf (y := yX9_deterministicStates) plX9 pvTb_g coX9 foX9 pvCl (caX9_deterministicStates hf) pvExOk_0 (fun ix h => by rcases h with h | h <;> cases (show (none : Option Nat) = some _ from h)) ⟨rfl, rfl⟩ chX9_deterministicStates (pvOkM_ex okX9_deterministicStates frX9_deterministicStates)
theorem pnX9_requireDeterministicState : pvPn yX9_requireDeterministicState = some 2 := by decide +kernel
theorem caX9_requireDeterministicState {l : Launch} (hf : l.stackTraces = false) : pvCaOk l mX9_requireDeterministicState "EventClockWorkbench" pvTb 58 aX9_requireDeterministicState := by
  refine pvCaOk_i fun ix n b ci co C h => ?_
  unfold aX9_requireDeterministicState at h
  split at h
  · cases h; exact pvCe_S (metX9_requireIndex hf) rfl wd_1_1 rfl wd_2_142 wd_2_143 pnX9_requireIndex wd_2_144
  · cases h; exact pvCe_V (k := 1) (T := TX9) (N := 11) (metX9_powerset hf) rfl wd_1_1 rfl wd_4_83 wd_4_85 ps_1_15 pnX9_powerset rfl wd_4_86
  · cases h
set_option maxRecDepth 100000 in
theorem chX9_requireDeterministicState : ∀ pc, pvChain cX9_requireDeterministicState pc (bX9_requireDeterministicState pc) := by
  intro pc
  unfold bX9_requireDeterministicState
  split <;> first | exact True.intro | exact pvChain_of (by decide +kernel)
theorem frX9_requireDeterministicState : ∀ pc, (bX9_requireDeterministicState pc).all (fun q => pvFrB eX9 q.1) = true := by
  intro pc
  unfold bX9_requireDeterministicState
  split <;> rfl
theorem metX9_requireDeterministicState {l : Launch} (hf : l.stackTraces = false) : pvMet l yX9_requireDeterministicState (Cond.code yX9_requireDeterministicState cX9_requireDeterministicState 3 none :: pvTb) mX9_requireDeterministicState C_X9_requireDeterministicState :=
  pvMet_of hf (y := yX9_requireDeterministicState) plX9 pvTb_g coX9 foX9 pvCl (caX9_requireDeterministicState hf) pvExOk_0 (fun ix h => by rcases h with h | h <;> cases (show (none : Option Nat) = some _ from h)) ⟨rfl, rfl⟩ chX9_requireDeterministicState (pvOkM_ex okX9_requireDeterministicState frX9_requireDeterministicState)
theorem pnX9_deterministicSet : pvPn yX9_deterministicSet = some 2 := by decide +kernel
theorem caX9_deterministicSet {l : Launch} (hf : l.stackTraces = false) : pvCaOk l mX9_deterministicSet "EventClockWorkbench" pvTb 58 aX9_deterministicSet := by
  refine pvCaOk_i fun ix n b ci co C h => ?_
  unfold aX9_deterministicSet at h
  split at h
  · cases h; exact pvCe_V (k := 1) (T := TX9) (N := 11) (metX9_powerset hf) rfl wd_1_1 rfl wd_4_83 wd_4_85 ps_1_15 pnX9_powerset rfl wd_4_86
  · cases h; exact pvCe_V (k := 2) (T := TX9) (N := 11) (metX9_requireDeterministicState hf) rfl wd_1_1 rfl wd_4_124 wd_4_126 ps_2_4 pnX9_requireDeterministicState rfl wd_4_127
  · cases h; exact pvCe_V (k := 1) (T := TX3) (N := 7) (metX3_setAt hf) rfl wd_1_3 rfl wd_4_128 wd_4_129 wd_4_130 pnX3_setAt rfl wd_4_131
  · cases h
set_option maxRecDepth 100000 in
theorem chX9_deterministicSet : ∀ pc, pvChain cX9_deterministicSet pc (bX9_deterministicSet pc) := by
  intro pc
  unfold bX9_deterministicSet
  split <;> first | exact True.intro | exact pvChain_of (by decide +kernel)
theorem frX9_deterministicSet : ∀ pc, (bX9_deterministicSet pc).all (fun q => pvFrB eX9 q.1) = true := by
  intro pc
  unfold bX9_deterministicSet
  split <;> rfl
theorem metX9_deterministicSet {l : Launch} (hf : l.stackTraces = false) : pvMet l yX9_deterministicSet (Cond.code yX9_deterministicSet cX9_deterministicSet 3 (some .int) :: pvTb) mX9_deterministicSet C_X9_deterministicSet :=
  pvMet_of hf (y := yX9_deterministicSet) plX9 pvTb_g coX9 foX9 pvCl (caX9_deterministicSet hf) pvExOk_0 (fun ix h => by rcases h with h | h <;> cases (show (none : Option Nat) = some _ from h)) ⟨rfl, rfl⟩ chX9_deterministicSet (pvOkM_ex okX9_deterministicSet frX9_deterministicSet)
