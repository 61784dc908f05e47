/-! contracts over the machine: class names -/
theorem plX0 : plainName "EventClockWorkbench$Automaton" = true := by decide +kernel
theorem plX1 : plainName "EventClockWorkbench$GuardText" = true := by decide +kernel
theorem plX2 : plainName "EventClockWorkbench$History" = true := by decide +kernel
theorem plX3 : plainName "EventClockWorkbench$Powerset" = true := by decide +kernel
theorem plX4 : plainName "EventClockWorkbench$Runs" = true := by decide +kernel
theorem plX5 : plainName "EventClockWorkbench$Search" = true := by decide +kernel
theorem plX6 : plainName "EventClockWorkbench$TimedWord" = true := by decide +kernel
theorem plX7 : plainName "EventClockWorkbench$Values" = true := by decide +kernel
theorem plX8 : plainName "EventClockWorkbench$WordCounter" = true := by decide +kernel
theorem plX9 : plainName "EventClockWorkbench" = true := by decide +kernel
theorem plX10 : plainName "EventClockWorkbenchModel" = true := by decide +kernel
theorem plL : plainName "EventClockWorkbenchLaw" = true := by decide +kernel
theorem plJ6 : plainName "java/lang/Integer" = true := by decide +kernel
theorem rd_oob {cc : ByteArray} {pc : Nat} (h : cc.size ≤ pc) : (Reader.u1 : Decoder Nat) cc pc = .error (HasTruncated.truncated pc) := by
  show (dite (pc < cc.size) (fun h => (do set (pc + 1); Pure.pure cc[pc].toNat : Decoder Nat)) (fun _ => (throw (HasTruncated.truncated pc : DecodeError) : Decoder Nat))) cc pc = _
  rw [dif_neg (by omega)]
  rfl
theorem rd_bind {α : Type} {cc : ByteArray} {pc : Nat} (h : cc.size ≤ pc) (f : Nat → Decoder α) : (Reader.u1 >>= f : Decoder α) cc pc = .error (HasTruncated.truncated pc) := by
  show ((Reader.u1 : Decoder Nat) cc pc >>= fun q => f q.1 cc q.2) = _
  rw [rd_oob h]
  rfl
theorem dec_oob {cc : ByteArray} {pc : Nat} (h : cc.size ≤ pc) {r : Instr × Nat} : decode cc pc ≠ .ok r := by
  intro hd
  have e : (Decoder.instr pc).runAt cc pc = .error (HasTruncated.truncated pc) := rd_bind h _
  unfold decode at hd
  rw [e] at hd
  cases hd
theorem pvExOk_0 {own : String} {cc : ByteArray} {Tb : List Jvm.Cond} {rm : Room} : pvExOk own cc Tb pvEx0 rm := fun ix ic k pc h => by cases (show (none : Option Nat) = some k from h)
