/-! feed, over the machine -/
/-- a character comes to the buffer -/
def apC (z : pvM) (x : Int) : pvM := (pvUp (pvUp z.1 18 (z.1 17 1).toNat x) 17 1 (z.1 17 1 + 1), z.2)
def apL (z : pvM) (xs : List Nat) : pvM := xs.foldl (fun z (x : Nat) => apC z (x : Int)) z
theorem apL_s (z : pvM) (xs : List Nat) (x : Nat) : apL z (xs ++ [x]) = apC (apL z xs) x := by
  unfold apL
  rw [List.foldl_append]
  rfl
theorem apC_n (z : pvM) (x : Int) : (apC z x).1 17 1 = z.1 17 1 + 1 := by
  unfold apC
  simp [pvUp]
theorem apL_n (z : pvM) (xs : List Nat) : (apL z xs).1 17 1 = z.1 17 1 + xs.length := by
  induction xs generalizing z with
  | nil => simp [apL]
  | cons x t ih =>
    show (apL (apC z x) t).1 17 1 = _
    rw [ih, apC_n, List.length_cons]
    omega
theorem apC_f (z : pvM) (x : Int) : frF [17, 18] [] z (apC z x) := frF_u (frF_u frF_0 (by decide)) (by decide)
theorem apL_f (z : pvM) (xs : List Nat) : frF [17, 18] [] z (apL z xs) := by
  induction xs generalizing z with
  | nil => exact frF_0
  | cons x t ih => exact frF_t (apC_f z x) (ih (apC z x)) (fun _ h => h) (fun _ h => h)
theorem apC_17 (z : pvM) (x : Int) (k : Nat) (h : k ≠ 1) : (apC z x).1 17 k = z.1 17 k := by
  unfold apC
  simp [pvUp, h]
theorem apC_18 (z : pvM) (x : Int) (k : Nat) : (apC z x).1 18 k = if k = (z.1 17 1).toNat then x else z.1 18 k := by
  unfold apC
  simp [pvUp]
theorem apL_lo (z : pvM) (xs : List Nat) (h0 : 0 ≤ z.1 17 1) (j : Nat) (hj : (j : Int) < z.1 17 1) : (apL z xs).1 18 j = z.1 18 j := by
  induction xs generalizing z with
  | nil => rfl
  | cons x t ih =>
    show (apL (apC z x) t).1 18 j = _
    rw [ih (apC z x) (by rw [apC_n]; omega) (by rw [apC_n]; omega), apC_18, if_neg (by omega)]
theorem apL_18 (z : pvM) (xs : List Nat) (h0 : 0 ≤ z.1 17 1) : ∀ k : Nat, k < xs.length → (apL z xs).1 18 ((z.1 17 1).toNat + k) = ((xs.getD k 0 : Nat) : Int) := by
  induction xs generalizing z with
  | nil => intro k hk; exact absurd hk (Nat.not_lt_zero _)
  | cons x t ih =>
    intro k hk
    show (apL (apC z x) t).1 18 _ = _
    rcases k with _ | k
    · rw [Nat.add_zero, apL_lo (apC z x) t (by rw [apC_n]; omega) _ (by rw [apC_n]; omega), apC_18, if_pos rfl]
      rfl
    · have h9 := ih (apC z x) (by rw [apC_n]; omega) k (by simpa using hk)
      rw [apC_n, show (z.1 17 1 + 1).toNat + k = (z.1 17 1).toNat + (k + 1) by omega] at h9
      rw [h9]
      rfl
theorem sb_oi (n : Nat) : Int32.ofInt (n : Int) = Int32.ofNat n := by
  rfl
def rL_feed : Room := { frames := 9, cells := 1, slots := 6, locals := 300 }
def aL_feed : pvCa
  | 24 => some (2, false, 8, 0, C_X9_appendCharacter)
  | _ => none
theorem caL_feed {l : Launch} (hf : l.stackTraces = false) (lm : Nat → Prop) (sc : Nat × (Nat → Int)) : pvCaOk l rL_feed "EventClockWorkbenchLaw" pvTb lm sc aL_feed := by
  refine pvCaOk_i fun ix n b ci co C h => ?_
  unfold aL_feed at h
  split at h
  · cases h; exact pvCe_V (k := 1) (T := TX9) (N := 11) (metX9_appendCharacter hf) rfl wd_1_1 rfl wd_4_94 wd_4_95 wd_4_96 pnX9_appendCharacter rfl wd_4_97
  · cases h
set_option maxHeartbeats 4000000 in
theorem tL_feed {l : Launch} (hf : l.stackTraces = false) (ad : Nat → Nat) (D : va_G) (cI cJ cD : ClassId) (sx : pvSx) (L : List Nat) (A : Nat → Prop) (a b : Nat) (xs : List Nat) (z : pvM) (hL0 : pvWl L) (hsx : ad 60 = sx.1) (hz : pvRng z) (h17 : z.1 17 1 = 0) (hlen : xs.length ≤ 29) (hxs : ∀ x ∈ xs, 33 ≤ x ∧ x ≤ 126) :
    Met l yL_feed (Cond.code yL_feed cL_feed 3 none :: pvTb) rL_feed (va_Pc [.ref (ad 0), .ref a] (fun U => pvPw ad D cI cJ cD sx L A z U ∧ tbL A a b xs U U.heap))
    (fun _ st o t => (o = .returned none ∧ va_P D vwCl (pvWs ad cI cJ cD L (apL z xs)) t.heap) ∧ va_F A st t) 1 6 A := by
  refine Met.ofW (cc := cL_feed) (maxL := 3) (ret := none) plL rfl ?_
  intro p e s m args below meth cQ s₁ B hml hv
  obtain ⟨rfl, ⟨hWc, hP, hD⟩, hq0⟩ := hv
  have hx := B.exec
  have hb := B.bytes
  have hr := B.returns
  have hts0 := atoms_spec (ws := Cond.code yL_feed cL_feed 3 none :: pvTb) B.pre
  have hts : ∀ w ∈ pvTb, w.before ([.ref (ad 0), .ref a] : List Value).toArray s = true := fun w hw => hts0 w (List.mem_cons_of_mem _ hw)
  have hown : s.vm.findClass "EventClockWorkbenchLaw" = some m.cls := findClass_of_methodNamed B.named
  have hlocks := B.notSynchronized
  have M : pvMc "EventClockWorkbenchLaw" cL_feed 3 pvTb p s m ([.ref (ad 0), .ref a] : List Value).toArray meth cQ := ⟨hx, hb, hml, hown, hts, hlocks⟩
  have hA : ∀ q, s.heap.size ≤ q → A q := hWc.2.1
  have hK := hWc.1
  have hZ : sbZ A s s.heap := hWc.2.2.2.2.2.2.2.2.2.sbZ
  have hl := lv_entry ([.ref (ad 0), .ref a]) (n := 3) (Nat.le_of_ble_eq_true rfl)
  rw [lg_entry_eq]
  generalize (lg_sl ([.ref (ad 0), .ref a]) ++ List.replicate (3 - (lg_sl ([.ref (ad 0), .ref a])).length) Slot.unset).toArray = ls at hl ⊢
  have hl : lv_has ls 3 [(0, .ref (ad 0)), (1, .ref a)] := hl
  have hR : 7 ≤ rL_feed.frames ∧ 240 ≤ rL_feed.locals := ⟨by decide, by decide⟩
  refine lv_iconst (v := 0) hx hb (show decode cL_feed 0 = .ok (.iconst 0, 1) from by decide +kernel) (by decide) ?_
  refine lv_istore_n (lv' := [(2, .int (Int32.ofNat 0)), (0, .ref (ad 0)), (1, .ref a)]) hx hb (show decode cL_feed 1 = .ok (.istore_n 2, 1) from by decide +kernel) rfl hl (by decide) rfl (fun ls hl => ?_)
  have loop : ∀ (n k : Nat), k + n = xs.length → ∀ (H : Heap) (locs : List Loc) (ls : Array Slot), va_P D vwCl (pvWs ad cI cJ cD L (apL z (xs.take k))) H → va_S A s.heap H locs → pvRng (apL z (xs.take k)) → lv_has ls 3 [(2, .int (Int32.ofNat k)), (0, .ref (ad 0)), (1, .ref a)] →
      W p l e rL_feed s m ([.ref (ad 0), .ref a] : List Value).toArray below meth cQ H locs 0 0 (MQ below (fun _ st o t => (o = .returned none ∧ va_P D vwCl (pvWs ad cI cJ cD L (apL z xs)) t.heap) ∧ va_F A st t) ([.ref (ad 0), .ref a] : List Value).toArray s 1 6 A) (F0 m 2 ls []) := by
    intro n
    induction n with
    | zero =>
      intro k hk H locs ls hP hS hzk hl
      obtain rfl : k = xs.length := by omega
      refine lv_iload_n hx hb (show decode cL_feed 2 = .ok (.iload_n 2, 1) from by decide +kernel) rfl (lv_at hl 0 rfl) ?_
      refine lv_aload_n hx hb (show decode cL_feed 3 = .ok (.aload_n 1, 1) from by decide +kernel) rfl (lv_at hl 2 rfl) ?_
      refine tx_len M hK hZ hA hS hl.1 hR ((hq0.kept hS.2.1).narrow (fun q h => hA q (Nat.le_trans hS.1 h))) (show decode cL_feed 4 = .ok (.invokevirtual 14, 3) from by decide +kernel) (Nat.le_of_ble_eq_true rfl) ⟨Nat.zero_le _, Nat.zero_le _⟩ (fun H1 locs1 hS1 hF1 => ?_)
      refine lv_icmp_ge hx hb (show decode cL_feed 7 = .ok (.if_icmp .ge 19, 3) from by decide +kernel) (tgt := 26) rfl (fun _ => ?_) (fun h9 => absurd (Int32.le_refl _) h9)
      refine W.widen (k := 1) (n := 6) (Nat.zero_le _) (Nat.zero_le _) ?_
      rw [List.take_length] at hP
      have hP1 : va_P D vwCl (pvWs ad cI cJ cD L (apL z xs)) H1 := hP.kept (fun k q hq => hF1.2 _ (hP k q hq).lt)
      exact W.vret hx hb hr (fun t ht hW => ⟨⟨rfl, by rw [ht]; exact hP1⟩, hS1.F ht⟩) hS1.2.2 (show decode cL_feed 26 = .ok (.return_, 1) from by decide +kernel) hlocks
    | succ n ih =>
      intro k hk H locs ls hP hS hzk hl
      have hkl : k < xs.length := by omega
      refine lv_iload_n hx hb (show decode cL_feed 2 = .ok (.iload_n 2, 1) from by decide +kernel) rfl (lv_at hl 0 rfl) ?_
      refine lv_aload_n hx hb (show decode cL_feed 3 = .ok (.aload_n 1, 1) from by decide +kernel) rfl (lv_at hl 2 rfl) ?_
      refine tx_len M hK hZ hA hS hl.1 hR ((hq0.kept hS.2.1).narrow (fun q h => hA q (Nat.le_trans hS.1 h))) (show decode cL_feed 4 = .ok (.invokevirtual 14, 3) from by decide +kernel) (Nat.le_of_ble_eq_true rfl) ⟨Nat.zero_le _, Nat.zero_le _⟩ (fun H1 locs1 hS1 hF1 => ?_)
      refine lv_icmp_ge hx hb (show decode cL_feed 7 = .ok (.if_icmp .ge 19, 3) from by decide +kernel) (tgt := 26) rfl (fun h9 => absurd h9 (Int32.not_le.mpr (sb_lt hkl (by omega)))) (fun _ => ?_)
      refine lv_aload_n hx hb (show decode cL_feed 10 = .ok (.aload_n 0, 1) from by decide +kernel) rfl (lv_at hl 1 rfl) ?_
      refine lv_aload_n hx hb (show decode cL_feed 11 = .ok (.aload_n 1, 1) from by decide +kernel) rfl (lv_at hl 2 rfl) ?_
      refine lv_iload_n hx hb (show decode cL_feed 12 = .ok (.iload_n 2, 1) from by decide +kernel) rfl (lv_at hl 0 rfl) ?_
      refine tx_chr M hK hZ hA hS1 hl.1 hR ((hq0.kept hS1.2.1).narrow (fun q h => hA q (Nat.le_trans hS1.1 h))) (by omega) hkl (fun x hx9 => by have := hxs x hx9; omega) (show decode cL_feed 13 = .ok (.invokevirtual 20, 3) from by decide +kernel) (Nat.le_of_ble_eq_true rfl) ⟨Nat.zero_le _, Nat.zero_le _⟩ (fun H2 locs2 hS2 hF2 => ?_)
      have hP2 : va_P D vwCl (pvWs ad cI cJ cD L (apL z (xs.take k))) H2 := hP.kept (fun k q hq => (hF1.tr hF2).2 _ (hP k q hq).lt)
      have hx9 : 33 ≤ tbX xs k ∧ tbX xs k ≤ 126 := by
        unfold tbX
        rw [List.getD_eq_getElem?_getD, List.getElem?_eq_getElem hkl]
        exact hxs _ (List.getElem_mem hkl)
      have h17k : (apL z (xs.take k)).1 17 1 = k := by
        rw [apL_n, h17, List.length_take]
        omega
      have e1 : apC (apL z (xs.take k)) (tbX xs k) = apL z (xs.take (k + 1)) := by
        rw [List.take_succ_eq_append_getElem hkl, apL_s]
        unfold tbX
        rw [List.getD_eq_getElem?_getD, List.getElem?_eq_getElem hkl]
        rfl
      have hl9 : pvLh ad [none, none, none] ls 3 := ⟨lv_has_sub hl (fun _ h => absurd h List.not_mem_nil), rfl⟩
      rw [← sb_oi]
      refine pvCall_ok (lim := pvLm L) (Ca := aL_feed) (ix := 24) (sta := false) (c0 := 0) (s0 := 0) (Gm := 1) (g := 0) (st := [vI (tbX xs k : Nat), vR 0]) (z := apL z (xs.take k)) (kx := fun _ _ _ => False) (kk := fun st' z' g' => g' = 0 ∧ (∃ r : Int, st' = [vI r]) ∧ z' = apL z (xs.take (k + 1))) M pvTb_g (caL_feed hf _ _) hWc (fun id h h6 => h.resolve_right h6) hL0 hsx ⟨Nat.le_refl _, Nat.le_refl _⟩ ?_ (show decode cL_feed 16 = .ok (.invokevirtual 24, 3) from by decide +kernel) ?_ hzk hl9 hP2 (pvD_any hD) hS2 ?_ ?_
      · unfold pvCall
        refine ⟨rfl, by decide, ?_⟩
        show pvCs [] ≤ 8 ∧ (false = false → pvRecv (pvLm L) 8 [vR 0, vI (tbX xs k : Nat)]) ∧ C_X9_appendCharacter [vR 0, vI (tbX xs k : Nat)] (apL z (xs.take k)) _
        refine ⟨by decide, fun _ => ⟨rfl, Or.inl (hL0.2.1 0 (by decide))⟩, rfl, by rw [h17k]; omega, fun h => absurd h (fun h => h (by omega)), fun _ h => absurd h (by rw [h17k]; omega), fun _ _ => ?_⟩
        exact ⟨rfl, ⟨_, rfl⟩, e1⟩
      · intro v hv
        simp only [List.mem_cons, List.not_mem_nil, or_false] at hv
        rcases hv with rfl | rfl
        · exact ⟨by omega, by omega⟩
        · exact trivial
      · rintro st' z9 g' ⟨rfl, ⟨r, rfl⟩, rfl⟩ hS9 hz9 H' locs' hP9 hSS9
        refine lv_pop hx hb (show decode cL_feed 19 = .ok (.pop, 1) from by decide +kernel) rfl ?_
        refine lv_iinc (lv' := [(2, .int (Int32.ofNat (k + 1))), (0, .ref (ad 0)), (1, .ref a)]) hx hb (show decode cL_feed 20 = .ok (.iinc 2 1, 3) from by decide +kernel) hl (k := 0) rfl (sb_add k 1) (by decide) rfl (fun ls hl => ?_)
        refine lv_goto hx hb (show decode cL_feed 23 = .ok (.goto (-21), 3) from by decide +kernel) (tgt := 2) rfl ?_
        exact ih (k + 1) (by omega) H' locs' ls hP9 hSS9 hz9 hl
      · rintro k z9 g' h
        exact h.elim
  exact loop xs.length 0 (by omega) s.heap [] ls hP va_S.rf hz hl
