/-! the pure walk is the machine's: instructions that touch locals and stack alone -/
def pvLn (i : Instr) (n : Nat) : Bool := match i with
  | .bipush _ | .ldc _ | .iload _ | .istore _ | .lload _ | .lstore _ | .aload _ | .astore _ | .dload _ | .dstore _ | .fload _ | .fstore _ | .newarray _ => n == 2
  | .sipush _ | .ldc_w _ | .ldc2_w _ | .iinc _ _ | .ifCond _ _ | .if_icmp _ _ | .ifnull _ | .ifnonnull _ | .goto _ | .getfield _ | .putfield _ | .invokevirtual _ | .invokestatic _ | .invokespecial _ | .new _ => n == 3
  | .tableswitch _ _ _ _ => true
  | _ => n == 1
/-- the machine's side of a walk: code, class, words -/
def pvMc (own : String) (cc : ByteArray) (nL : Nat) (Tb : List Jvm.Cond) (p : Program) (s : State) (m : MethodId) (args : Array Value) (meth : Method) (c : Code) : Prop :=
  p.tables.exec = Jvm.exec ∧ c.code = cc ∧ c.maxLocals = nL ∧ s.vm.findClass own = some m.cls ∧ (∀ w ∈ Tb, w.before args s = true) ∧ meth.locks = false
/-- a class's constants -/
def pvCoOk (own : String) (Tb : List Jvm.Cond) (Co : pvCo) : Prop := ∀ ix v, Co ix = some v → match v with
  | .inl a => Cond.constant own ix (Int32.ofInt a) ∈ Tb
  | .inr (.inl a) => Cond.constantLong own ix (Int64.ofInt a) ∈ Tb
  | .inr (.inr (.inr (.inl a))) => Cond.constantDouble own ix a ∈ Tb
  | _ => True
theorem pvS1_ok {ls : pvL} {nL k : Nat} {ad : Nat → Nat} {arr : Array Slot} (h : pvLh ad ls arr nL) (hk : k < ls.length) : k < nL := by rw [← h.2]; exact hk
set_option maxHeartbeats 4000000 in
theorem pvA_ok {p : Program} {l : Launch} {e : Env} {R : Room} {s : State} {m : MethodId} {args : Array Value} {below : List Frame} {meth : Method} {c : Code} {Qm : State → Prop}
    {own : String} {cc : ByteArray} {nL : Nat} {Tb : List Jvm.Cond} {Co : pvCo} (M : pvMc own cc nL Tb p s m args meth c) (hCo : pvCoOk own Tb Co) {i : Instr} {n pc : Nat} {ls ls' : pvL} {st st' : List pvV} {o : Prop}
    (h : pvA Co i ls st = some (o, ls', st')) (ho : o) (hd : decode cc pc = .ok (i, n)) (hn : pvLn i n = true) (hL : pvOkL ls) (hS : pvOkS st) :
    pvOkL ls' ∧ pvOkS st' ∧ ∀ (ad : Nat → Nat) (H : Heap) (locs : List Loc) (cells slots : Nat) (arr : Array Slot), pvLh ad ls arr nL →
      (∀ arr', pvLh ad ls' arr' nL → W p l e R s m args below meth c H locs cells slots Qm (F0 m (pc + n) arr' (st'.map (pvRe ad)))) →
      W p l e R s m args below meth c H locs cells slots Qm (F0 m pc arr (st.map (pvRe ad))) := by
  obtain ⟨hx, hb, hml, hown, hts, hlocks⟩ := M
  cases i <;> first | (cases h; done) | skip
  case iconst k =>
    simp only [pvA] at h
    simp only [Option.some.injEq, Prod.mk.injEq] at h
    obtain ⟨rfl, rfl, rfl⟩ := h
    obtain rfl : n = 1 := by simpa [pvLn] using hn
    exact ⟨hL, pvOkS_c ho hS, fun ad H locs cells slots arr hl k => lv_iconst hx hb hd rfl (k arr hl)⟩
  case bipush k =>
    simp only [pvA] at h
    simp only [Option.some.injEq, Prod.mk.injEq] at h
    obtain ⟨rfl, rfl, rfl⟩ := h
    obtain rfl : n = 2 := by simpa [pvLn] using hn
    exact ⟨hL, pvOkS_c (by show pvR k; unfold pvR; omega) hS, fun ad H locs cells slots arr hl k => lv_bipush hx hb hd (pvN_b8 ho) (k arr hl)⟩
  case sipush k =>
    simp only [pvA] at h
    simp only [Option.some.injEq, Prod.mk.injEq] at h
    obtain ⟨rfl, rfl, rfl⟩ := h
    obtain rfl : n = 3 := by simpa [pvLn] using hn
    exact ⟨hL, pvOkS_c (by show pvR k; unfold pvR; omega) hS, fun ad H locs cells slots arr hl k => lv_sipush hx hb hd (pvN_b16 ho) (k arr hl)⟩
  case lconst k =>
    simp only [pvA] at h
    simp only [Option.some.injEq, Prod.mk.injEq] at h
    obtain ⟨rfl, rfl, rfl⟩ := h
    obtain rfl : n = 1 := by simpa [pvLn] using hn
    exact ⟨hL, pvOkS_c trivial hS, fun ad H locs cells slots arr hl q => lv_lconst hx hb hd rfl (q arr hl)⟩
  case ldc ix =>
    simp only [pvA] at h
    split at h
    · rename_i a hc
      simp only [Option.some.injEq, Prod.mk.injEq] at h
      obtain ⟨rfl, rfl, rfl⟩ := h
      obtain rfl : n = 2 := by simpa [pvLn] using hn
      have hw := hCo ix _ hc
      exact ⟨hL, pvOkS_c ho hS, fun ad H locs cells slots arr hl k => lv_ldc hx hb hown (hts _ hw) hd (k arr hl)⟩
    · cases h
  case ldc_w ix =>
    simp only [pvA] at h
    split at h
    · rename_i a hc
      simp only [Option.some.injEq, Prod.mk.injEq] at h
      obtain ⟨rfl, rfl, rfl⟩ := h
      obtain rfl : n = 3 := by simpa [pvLn] using hn
      have hw := hCo ix _ hc
      exact ⟨hL, pvOkS_c ho hS, fun ad H locs cells slots arr hl k => lv_ldcw hx hb hown (hts _ hw) hd (k arr hl)⟩
    · cases h
  case ldc2_w ix =>
    simp only [pvA] at h
    split at h
    · rename_i a hc
      simp only [Option.some.injEq, Prod.mk.injEq] at h
      obtain ⟨rfl, rfl, rfl⟩ := h
      obtain rfl : n = 3 := by simpa [pvLn] using hn
      have hw := hCo ix _ hc
      exact ⟨hL, pvOkS_c trivial hS, fun ad H locs cells slots arr hl k => lv_ldc2 hx hb hown (hts _ hw) hd (k arr hl)⟩
    · rename_i a hc
      simp only [Option.some.injEq, Prod.mk.injEq] at h
      obtain ⟨rfl, rfl, rfl⟩ := h
      obtain rfl : n = 3 := by simpa [pvLn] using hn
      have hw := hCo ix _ hc
      exact ⟨hL, pvOkS_c trivial hS, fun ad H locs cells slots arr hl k => lv_ldc2d hx hb hown (hts _ hw) hd (k arr hl)⟩
    · cases h
  case fconst k =>
    simp only [pvA] at h
    split at h
    · rename_i hk
      subst hk
      simp only [Option.some.injEq, Prod.mk.injEq] at h
      obtain ⟨rfl, rfl, rfl⟩ := h
      obtain rfl : n = 1 := by simpa [pvLn] using hn
      exact ⟨hL, pvOkS_c trivial hS, fun ad H locs cells slots arr hl k => lv_fconst0 hx hb hd (k arr hl)⟩
    · cases h
  case dconst k =>
    simp only [pvA] at h
    split at h
    · rename_i hk
      subst hk
      simp only [Option.some.injEq, Prod.mk.injEq] at h
      obtain ⟨rfl, rfl, rfl⟩ := h
      obtain rfl : n = 1 := by simpa [pvLn] using hn
      exact ⟨hL, pvOkS_c trivial hS, fun ad H locs cells slots arr hl k => lv_dconst0 hx hb hd (k arr hl)⟩
    · cases h
  case iload k =>
    simp only [pvA] at h
    split at h
    · rename_i a hc
      simp only [Option.some.injEq, Prod.mk.injEq] at h
      obtain ⟨rfl, rfl, rfl⟩ := h
      obtain rfl : n = 2 := by simpa [pvLn] using hn
      exact ⟨hL, pvOkS_c (hL _ _ hc) hS, fun ad H locs cells slots arr hl q => lv_iload hx hb hd (pvLh_ld hl hc) (q arr hl)⟩
    · cases h
  case iload_n k =>
    simp only [pvA] at h
    split at h
    · rename_i a hc
      simp only [Option.some.injEq, Prod.mk.injEq] at h
      obtain ⟨rfl, rfl, rfl⟩ := h
      obtain rfl : n = 1 := by simpa [pvLn] using hn
      exact ⟨hL, pvOkS_c (hL _ _ hc) hS, fun ad H locs cells slots arr hl q => lv_iload_n hx hb hd rfl (pvLh_ld hl hc) (q arr hl)⟩
    · cases h
  case lload k =>
    simp only [pvA] at h
    split at h
    · rename_i a hc
      simp only [Option.some.injEq, Prod.mk.injEq] at h
      obtain ⟨rfl, rfl, rfl⟩ := h
      obtain rfl : n = 2 := by simpa [pvLn] using hn
      exact ⟨hL, pvOkS_c (hL _ _ hc) hS, fun ad H locs cells slots arr hl q => lv_lload hx hb hd (pvLh_ld hl hc) (q arr hl)⟩
    · cases h
  case lload_n k =>
    simp only [pvA] at h
    split at h
    · rename_i a hc
      simp only [Option.some.injEq, Prod.mk.injEq] at h
      obtain ⟨rfl, rfl, rfl⟩ := h
      obtain rfl : n = 1 := by simpa [pvLn] using hn
      exact ⟨hL, pvOkS_c (hL _ _ hc) hS, fun ad H locs cells slots arr hl q => lv_lload_n hx hb hd rfl (pvLh_ld hl hc) (q arr hl)⟩
    · cases h
  case aload k =>
    simp only [pvA] at h
    split at h
    · rename_i a hc
      simp only [Option.some.injEq, Prod.mk.injEq] at h
      obtain ⟨rfl, rfl, rfl⟩ := h
      obtain rfl : n = 2 := by simpa [pvLn] using hn
      exact ⟨hL, pvOkS_c (hL _ _ hc) hS, fun ad H locs cells slots arr hl q => lv_aload hx hb hd (pvLh_ld hl hc) (q arr hl)⟩
    · cases h
  case aload_n k =>
    simp only [pvA] at h
    split at h
    · rename_i a hc
      simp only [Option.some.injEq, Prod.mk.injEq] at h
      obtain ⟨rfl, rfl, rfl⟩ := h
      obtain rfl : n = 1 := by simpa [pvLn] using hn
      exact ⟨hL, pvOkS_c (hL _ _ hc) hS, fun ad H locs cells slots arr hl q => lv_aload_n hx hb hd rfl (pvLh_ld hl hc) (q arr hl)⟩
    · cases h
  case dload k =>
    simp only [pvA] at h
    split at h
    · rename_i a hc
      simp only [Option.some.injEq, Prod.mk.injEq] at h
      obtain ⟨rfl, rfl, rfl⟩ := h
      obtain rfl : n = 2 := by simpa [pvLn] using hn
      exact ⟨hL, pvOkS_c (hL _ _ hc) hS, fun ad H locs cells slots arr hl q => lv_dload hx hb hd (pvLh_ld hl hc) (q arr hl)⟩
    · cases h
  case dload_n k =>
    simp only [pvA] at h
    split at h
    · rename_i a hc
      simp only [Option.some.injEq, Prod.mk.injEq] at h
      obtain ⟨rfl, rfl, rfl⟩ := h
      obtain rfl : n = 1 := by simpa [pvLn] using hn
      exact ⟨hL, pvOkS_c (hL _ _ hc) hS, fun ad H locs cells slots arr hl q => lv_dload_n hx hb hd rfl (pvLh_ld hl hc) (q arr hl)⟩
    · cases h
  case fload k =>
    simp only [pvA] at h
    split at h
    · rename_i a hc
      simp only [Option.some.injEq, Prod.mk.injEq] at h
      obtain ⟨rfl, rfl, rfl⟩ := h
      obtain rfl : n = 2 := by simpa [pvLn] using hn
      exact ⟨hL, pvOkS_c (hL _ _ hc) hS, fun ad H locs cells slots arr hl q => lv_fload hx hb hd (pvLh_ld hl hc) (q arr hl)⟩
    · cases h
  case istore k =>
    simp only [pvA] at h
    split at h
    · rename_i a r
      simp only [Option.some.injEq, Prod.mk.injEq] at h
      obtain ⟨rfl, rfl, rfl⟩ := h
      obtain rfl : n = 2 := by simpa [pvLn] using hn
      exact ⟨pvOkL_s1 hL (pvOkS_h hS), pvOkS_t hS, fun ad H locs cells slots arr hl q => lv_istore hx hb hd hl.1 (pvS1_ok hl ho) rfl (fun ls9 h9 => q ls9 (pvLh_s1 hl h9))⟩
    · cases h
  case istore_n k =>
    simp only [pvA] at h
    split at h
    · rename_i a r
      simp only [Option.some.injEq, Prod.mk.injEq] at h
      obtain ⟨rfl, rfl, rfl⟩ := h
      obtain rfl : n = 1 := by simpa [pvLn] using hn
      exact ⟨pvOkL_s1 hL (pvOkS_h hS), pvOkS_t hS, fun ad H locs cells slots arr hl q => lv_istore_n hx hb hd rfl hl.1 (pvS1_ok hl ho) rfl (fun ls9 h9 => q ls9 (pvLh_s1 hl h9))⟩
    · cases h
  case astore k =>
    simp only [pvA] at h
    split at h
    · rename_i a r
      simp only [Option.some.injEq, Prod.mk.injEq] at h
      obtain ⟨rfl, rfl, rfl⟩ := h
      obtain rfl : n = 2 := by simpa [pvLn] using hn
      exact ⟨pvOkL_s1 hL (pvOkS_h hS), pvOkS_t hS, fun ad H locs cells slots arr hl q => lv_astore hx hb hd hl.1 (pvS1_ok hl ho) rfl (fun ls9 h9 => q ls9 (pvLh_s1 hl h9))⟩
    · cases h
  case astore_n k =>
    simp only [pvA] at h
    split at h
    · rename_i a r
      simp only [Option.some.injEq, Prod.mk.injEq] at h
      obtain ⟨rfl, rfl, rfl⟩ := h
      obtain rfl : n = 1 := by simpa [pvLn] using hn
      exact ⟨pvOkL_s1 hL (pvOkS_h hS), pvOkS_t hS, fun ad H locs cells slots arr hl q => lv_astore_n hx hb hd rfl hl.1 (pvS1_ok hl ho) rfl (fun ls9 h9 => q ls9 (pvLh_s1 hl h9))⟩
    · cases h
  case fstore k =>
    simp only [pvA] at h
    split at h
    · rename_i a r
      simp only [Option.some.injEq, Prod.mk.injEq] at h
      obtain ⟨rfl, rfl, rfl⟩ := h
      obtain rfl : n = 2 := by simpa [pvLn] using hn
      exact ⟨pvOkL_s1 hL (pvOkS_h hS), pvOkS_t hS, fun ad H locs cells slots arr hl q => lv_fstore hx hb hd hl.1 (pvS1_ok hl ho) rfl (fun ls9 h9 => q ls9 (pvLh_s1 hl h9))⟩
    · cases h
  case lstore k =>
    simp only [pvA] at h
    split at h
    · rename_i a r
      simp only [Option.some.injEq, Prod.mk.injEq] at h
      obtain ⟨rfl, rfl, rfl⟩ := h
      obtain rfl : n = 2 := by simpa [pvLn] using hn
      exact ⟨pvOkL_s2 hL (pvOkS_h hS) ho, pvOkS_t hS, fun ad H locs cells slots arr hl q => lv_lstore hx hb hd hl.1 (by rw [← hl.2]; exact ho) rfl (fun ls9 h9 => q ls9 (pvLh_s2 hl ho h9))⟩
    · cases h
  case lstore_n k =>
    simp only [pvA] at h
    split at h
    · rename_i a r
      simp only [Option.some.injEq, Prod.mk.injEq] at h
      obtain ⟨rfl, rfl, rfl⟩ := h
      obtain rfl : n = 1 := by simpa [pvLn] using hn
      exact ⟨pvOkL_s2 hL (pvOkS_h hS) ho, pvOkS_t hS, fun ad H locs cells slots arr hl q => lv_lstore_n hx hb hd rfl hl.1 (by rw [← hl.2]; exact ho) rfl (fun ls9 h9 => q ls9 (pvLh_s2 hl ho h9))⟩
    · cases h
  case dstore k =>
    simp only [pvA] at h
    split at h
    · rename_i a r
      simp only [Option.some.injEq, Prod.mk.injEq] at h
      obtain ⟨rfl, rfl, rfl⟩ := h
      obtain rfl : n = 2 := by simpa [pvLn] using hn
      exact ⟨pvOkL_s2 hL (pvOkS_h hS) ho, pvOkS_t hS, fun ad H locs cells slots arr hl q => lv_dstore hx hb hd hl.1 (by rw [← hl.2]; exact ho) rfl (fun ls9 h9 => q ls9 (pvLh_s2 hl ho h9))⟩
    · cases h
  case dstore_n k =>
    simp only [pvA] at h
    split at h
    · rename_i a r
      simp only [Option.some.injEq, Prod.mk.injEq] at h
      obtain ⟨rfl, rfl, rfl⟩ := h
      obtain rfl : n = 1 := by simpa [pvLn] using hn
      exact ⟨pvOkL_s2 hL (pvOkS_h hS) ho, pvOkS_t hS, fun ad H locs cells slots arr hl q => lv_dstore_n hx hb hd rfl hl.1 (by rw [← hl.2]; exact ho) rfl (fun ls9 h9 => q ls9 (pvLh_s2 hl ho h9))⟩
    · cases h
  case iinc k c9 =>
    simp only [pvA] at h
    split at h
    · rename_i a hc
      simp only [Option.some.injEq, Prod.mk.injEq] at h
      obtain ⟨rfl, rfl, rfl⟩ := h
      obtain rfl : n = 3 := by simpa [pvLn] using hn
      refine ⟨pvOkL_s1 hL ho.2, hS, fun ad H locs cells slots arr hl q => ?_⟩
      have hm : (k, Value.int (Int32.ofInt a)) ∈ pvAr ad ls := List.mem_map.mpr ⟨(k, .inl a), (pvAs_mem _ _ _).mpr ⟨Nat.zero_le _, hc⟩, rfl⟩
      obtain ⟨j, hj⟩ := List.getElem?_of_mem hm
      exact lv_iinc (v := Int32.ofInt (a + c9)) hx hb hd hl.1 hj (pvN_add a c9).symm (pvS1_ok hl ho.1) rfl (fun ls9 h9 => q ls9 (pvLh_s1 (v := .inl (a + c9)) hl h9))
    · cases h
  case iadd =>
    simp only [pvA] at h
    split at h
    · rename_i b a r
      simp only [Option.some.injEq, Prod.mk.injEq] at h
      obtain ⟨rfl, rfl, rfl⟩ := h
      obtain rfl : n = 1 := by simpa [pvLn] using hn
      exact ⟨hL, pvOkS_c ho (pvOkS_t (pvOkS_t hS)), fun ad H locs cells slots arr hl q => lv_iadd hx hb hd (by rw [← pvN_add]; exact q arr hl)⟩
    · cases h
  case isub =>
    simp only [pvA] at h
    split at h
    · rename_i b a r
      simp only [Option.some.injEq, Prod.mk.injEq] at h
      obtain ⟨rfl, rfl, rfl⟩ := h
      obtain rfl : n = 1 := by simpa [pvLn] using hn
      exact ⟨hL, pvOkS_c ho (pvOkS_t (pvOkS_t hS)), fun ad H locs cells slots arr hl q => lv_isub hx hb hd (by rw [← pvN_sub]; exact q arr hl)⟩
    · cases h
  case imul =>
    simp only [pvA] at h
    split at h
    · rename_i b a r
      simp only [Option.some.injEq, Prod.mk.injEq] at h
      obtain ⟨rfl, rfl, rfl⟩ := h
      obtain rfl : n = 1 := by simpa [pvLn] using hn
      exact ⟨hL, pvOkS_c ho (pvOkS_t (pvOkS_t hS)), fun ad H locs cells slots arr hl q => lv_imul hx hb hd (by rw [← pvN_mul]; exact q arr hl)⟩
    · cases h
  case ineg =>
    simp only [pvA] at h
    split at h
    · rename_i a r
      simp only [Option.some.injEq, Prod.mk.injEq] at h
      obtain ⟨rfl, rfl, rfl⟩ := h
      obtain rfl : n = 1 := by simpa [pvLn] using hn
      exact ⟨hL, pvOkS_c ho (pvOkS_t hS), fun ad H locs cells slots arr hl q => lv_ineg hx hb hd (by rw [← pvN_neg]; exact q arr hl)⟩
    · cases h
  case idiv =>
    simp only [pvA] at h
    split at h
    · rename_i b a r
      simp only [Option.some.injEq, Prod.mk.injEq] at h
      obtain ⟨rfl, rfl, rfl⟩ := h
      obtain rfl : n = 1 := by simpa [pvLn] using hn
      have hb9 : pvR b := pvOkS_h hS
      have ha : pvR a := pvOkS_h (pvOkS_t hS)
      have hne : ¬ Int32.ofInt b = 0 := by rw [show (0 : Int32) = Int32.ofInt 0 from rfl, pvN_eq hb9 (by decide)]; omega
      exact ⟨hL, pvOkS_c (show pvR _ from pvR_div ha ho.1 ho.2) (pvOkS_t (pvOkS_t hS)), fun ad H locs cells slots arr hl q => lv_idiv hx hb hd hne (by rw [pvN_div ha hb9 ho.1 ho.2]; exact q arr hl)⟩
    · cases h
  case irem =>
    simp only [pvA] at h
    split at h
    · rename_i b a r
      simp only [Option.some.injEq, Prod.mk.injEq] at h
      obtain ⟨rfl, rfl, rfl⟩ := h
      obtain rfl : n = 1 := by simpa [pvLn] using hn
      have hb9 : pvR b := pvOkS_h hS
      have ha : pvR a := pvOkS_h (pvOkS_t hS)
      have hne : ¬ Int32.ofInt b = 0 := by rw [show (0 : Int32) = Int32.ofInt 0 from rfl, pvN_eq hb9 (by decide)]; omega
      exact ⟨hL, pvOkS_c (show pvR _ from pvR_rem hb9 ho.2) (pvOkS_t (pvOkS_t hS)), fun ad H locs cells slots arr hl q => lv_irem hx hb hd hne (by rw [pvN_rem ha hb9 ho.1 ho.2]; exact q arr hl)⟩
    · cases h
  case iand =>
    simp only [pvA] at h
    split at h
    · rename_i b a r
      simp only [Option.some.injEq, Prod.mk.injEq] at h
      obtain ⟨rfl, rfl, rfl⟩ := h
      obtain rfl : n = 1 := by simpa [pvLn] using hn
      exact ⟨hL, pvOkS_c (pvR_to _) (pvOkS_t (pvOkS_t hS)), fun ad H locs cells slots arr hl q => lv_iand hx hb hd (by have q9 := q arr hl; simp only [List.map_cons, pvRe, pvAnd, pvN_to] at q9; exact q9)⟩
    · cases h
  case ior =>
    simp only [pvA] at h
    split at h
    · rename_i b a r
      simp only [Option.some.injEq, Prod.mk.injEq] at h
      obtain ⟨rfl, rfl, rfl⟩ := h
      obtain rfl : n = 1 := by simpa [pvLn] using hn
      exact ⟨hL, pvOkS_c (pvR_to _) (pvOkS_t (pvOkS_t hS)), fun ad H locs cells slots arr hl q => lv_ior hx hb hd (by have q9 := q arr hl; simp only [List.map_cons, pvRe, pvOr, pvN_to] at q9; exact q9)⟩
    · cases h
  case ixor =>
    simp only [pvA] at h
    split at h
    · rename_i b a r
      simp only [Option.some.injEq, Prod.mk.injEq] at h
      obtain ⟨rfl, rfl, rfl⟩ := h
      obtain rfl : n = 1 := by simpa [pvLn] using hn
      exact ⟨hL, pvOkS_c (pvR_to _) (pvOkS_t (pvOkS_t hS)), fun ad H locs cells slots arr hl q => lv_ixor hx hb hd (by have q9 := q arr hl; simp only [List.map_cons, pvRe, pvXor, pvN_to] at q9; exact q9)⟩
    · cases h
  case ishl =>
    simp only [pvA] at h
    split at h
    · rename_i b a r
      simp only [Option.some.injEq, Prod.mk.injEq] at h
      obtain ⟨rfl, rfl, rfl⟩ := h
      obtain rfl : n = 1 := by simpa [pvLn] using hn
      exact ⟨hL, pvOkS_c (pvR_to _) (pvOkS_t (pvOkS_t hS)), fun ad H locs cells slots arr hl q => lv_ishl hx hb hd (by have q9 := q arr hl; simp only [List.map_cons, pvRe, pvShl, pvN_to] at q9; exact q9)⟩
    · cases h
  case ishr =>
    simp only [pvA] at h
    split at h
    · rename_i b a r
      simp only [Option.some.injEq, Prod.mk.injEq] at h
      obtain ⟨rfl, rfl, rfl⟩ := h
      obtain rfl : n = 1 := by simpa [pvLn] using hn
      exact ⟨hL, pvOkS_c (pvR_to _) (pvOkS_t (pvOkS_t hS)), fun ad H locs cells slots arr hl q => lv_ishr hx hb hd (by have q9 := q arr hl; simp only [List.map_cons, pvRe, pvShr, pvN_to] at q9; exact q9)⟩
    · cases h
  case iushr =>
    simp only [pvA] at h
    split at h
    · rename_i b a r
      simp only [Option.some.injEq, Prod.mk.injEq] at h
      obtain ⟨rfl, rfl, rfl⟩ := h
      obtain rfl : n = 1 := by simpa [pvLn] using hn
      exact ⟨hL, pvOkS_c (pvR_to _) (pvOkS_t (pvOkS_t hS)), fun ad H locs cells slots arr hl q => lv_iushr hx hb hd rfl (by have q9 := q arr hl; simp only [List.map_cons, pvRe, pvUshr, pvN_to] at q9; exact q9)⟩
    · cases h
  case ladd =>
    simp only [pvA] at h
    split at h
    · rename_i b a r
      simp only [Option.some.injEq, Prod.mk.injEq] at h
      obtain ⟨rfl, rfl, rfl⟩ := h
      obtain rfl : n = 1 := by simpa [pvLn] using hn
      exact ⟨hL, pvOkS_c trivial (pvOkS_t (pvOkS_t hS)), fun ad H locs cells slots arr hl q => lv_ladd hx hb hd (by rw [← pvN_addl]; exact q arr hl)⟩
    · cases h
  case lmul =>
    simp only [pvA] at h
    split at h
    · rename_i b a r
      simp only [Option.some.injEq, Prod.mk.injEq] at h
      obtain ⟨rfl, rfl, rfl⟩ := h
      obtain rfl : n = 1 := by simpa [pvLn] using hn
      exact ⟨hL, pvOkS_c trivial (pvOkS_t (pvOkS_t hS)), fun ad H locs cells slots arr hl q => lv_lmul hx hb hd (by rw [← pvN_mull]; exact q arr hl)⟩
    · cases h
  case lcmp =>
    simp only [pvA] at h
    split at h
    · rename_i b a r
      simp only [Option.some.injEq, Prod.mk.injEq] at h
      obtain ⟨rfl, rfl, rfl⟩ := h
      obtain rfl : n = 1 := by simpa [pvLn] using hn
      exact ⟨hL, pvOkS_c (show pvR _ from pvR_cmp) (pvOkS_t (pvOkS_t hS)), fun ad H locs cells slots arr hl q => W.lcmp hx hb hd (by rw [pvN_cmp ho.1 ho.2]; exact q arr hl)⟩
    · cases h
  case i2l =>
    simp only [pvA] at h
    split at h
    · rename_i a r
      simp only [Option.some.injEq, Prod.mk.injEq] at h
      obtain ⟨rfl, rfl, rfl⟩ := h
      obtain rfl : n = 1 := by simpa [pvLn] using hn
      exact ⟨hL, pvOkS_c trivial (pvOkS_t hS), fun ad H locs cells slots arr hl q => lv_i2l hx hb hd (pvN_i2l (pvOkS_h hS)) (q arr hl)⟩
    · cases h
  case l2d =>
    simp only [pvA] at h
    split at h
    · rename_i a r
      simp only [Option.some.injEq, Prod.mk.injEq] at h
      obtain ⟨rfl, rfl, rfl⟩ := h
      obtain rfl : n = 1 := by simpa [pvLn] using hn
      exact ⟨hL, pvOkS_c trivial (pvOkS_t hS), fun ad H locs cells slots arr hl q => lv_l2d hx hb hd (q arr hl)⟩
    · cases h
  case i2f =>
    simp only [pvA] at h
    split at h
    · rename_i a r
      simp only [Option.some.injEq, Prod.mk.injEq] at h
      obtain ⟨rfl, rfl, rfl⟩ := h
      obtain rfl : n = 1 := by simpa [pvLn] using hn
      exact ⟨hL, pvOkS_c trivial (pvOkS_t hS), fun ad H locs cells slots arr hl q => lv_i2f hx hb hd (q arr hl)⟩
    · cases h
  case ddiv =>
    simp only [pvA] at h
    split at h
    · rename_i b a r
      simp only [Option.some.injEq, Prod.mk.injEq] at h
      obtain ⟨rfl, rfl, rfl⟩ := h
      obtain rfl : n = 1 := by simpa [pvLn] using hn
      exact ⟨hL, pvOkS_c trivial (pvOkS_t (pvOkS_t hS)), fun ad H locs cells slots arr hl q => lv_ddiv hx hb hd ho (q arr hl)⟩
    · cases h
  case fdiv =>
    simp only [pvA] at h
    split at h
    · rename_i b a r
      simp only [Option.some.injEq, Prod.mk.injEq] at h
      obtain ⟨rfl, rfl, rfl⟩ := h
      obtain rfl : n = 1 := by simpa [pvLn] using hn
      exact ⟨hL, pvOkS_c trivial (pvOkS_t (pvOkS_t hS)), fun ad H locs cells slots arr hl q => lv_fdiv hx hb hd ho (q arr hl)⟩
    · cases h
  case f2d =>
    simp only [pvA] at h
    split at h
    · rename_i a r
      simp only [Option.some.injEq, Prod.mk.injEq] at h
      obtain ⟨rfl, rfl, rfl⟩ := h
      obtain rfl : n = 1 := by simpa [pvLn] using hn
      exact ⟨hL, pvOkS_c trivial (pvOkS_t hS), fun ad H locs cells slots arr hl q => lv_f2d hx hb hd ho (q arr hl)⟩
    · cases h
  case dcmp op =>
    simp only [pvA] at h
    split at h
    · rename_i b a r
      simp only [Option.some.injEq, Prod.mk.injEq] at h
      obtain ⟨rfl, rfl, rfl⟩ := h
      obtain rfl : n = 1 := by simpa [pvLn] using hn
      exact ⟨hL, pvOkS_c (pvR_to _) (pvOkS_t (pvOkS_t hS)), fun ad H locs cells slots arr hl q => lv_dcmp hx hb hd (by have q9 := q arr hl; simp only [List.map_cons, pvRe, pvN_to] at q9; exact q9)⟩
    · cases h
  case fcmp op =>
    simp only [pvA] at h
    split at h
    · rename_i b a r
      simp only [Option.some.injEq, Prod.mk.injEq] at h
      obtain ⟨rfl, rfl, rfl⟩ := h
      obtain rfl : n = 1 := by simpa [pvLn] using hn
      exact ⟨hL, pvOkS_c (pvR_to _) (pvOkS_t (pvOkS_t hS)), fun ad H locs cells slots arr hl q => lv_fcmp hx hb hd (by have q9 := q arr hl; simp only [List.map_cons, pvRe, pvN_to] at q9; exact q9)⟩
    · cases h
  case dup =>
    simp only [pvA] at h
    split at h
    · rename_i a r
      split at h
      · rename_i ha
        simp only [Option.some.injEq, Prod.mk.injEq] at h
        obtain ⟨rfl, rfl, rfl⟩ := h
        obtain rfl : n = 1 := by simpa [pvLn] using hn
        exact ⟨hL, pvOkS_c (pvOkS_h hS) hS, fun ad H locs cells slots arr hl q => lv_dup hx hb hd (by rw [pvRe_cat]; exact ha) (q arr hl)⟩
      · cases h
    · cases h
  case pop =>
    simp only [pvA] at h
    split at h
    · rename_i a r
      split at h
      · rename_i ha
        simp only [Option.some.injEq, Prod.mk.injEq] at h
        obtain ⟨rfl, rfl, rfl⟩ := h
        obtain rfl : n = 1 := by simpa [pvLn] using hn
        exact ⟨hL, pvOkS_t hS, fun ad H locs cells slots arr hl q => lv_pop hx hb hd (by rw [pvRe_cat]; exact ha) (q arr hl)⟩
      · cases h
    · cases h
  case dup2 =>
    simp only [pvA] at h
    split at h
    · rename_i a b r
      split at h
      · rename_i ha
        simp only [Option.some.injEq, Prod.mk.injEq] at h
        obtain ⟨rfl, rfl, rfl⟩ := h
        obtain rfl : n = 1 := by simpa [pvLn] using hn
        exact ⟨hL, pvOkS_c (pvOkS_h hS) (pvOkS_c (pvOkS_h (pvOkS_t hS)) hS), fun ad H locs cells slots arr hl q => lv_dup2_11 hx hb hd (by rw [pvRe_cat]; exact ha.1) (by rw [pvRe_cat]; exact ha.2) (q arr hl)⟩
      · cases h
    · cases h
