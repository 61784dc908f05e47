/-! the law's constraint -/
def txN : List (List Nat) := [[], [38], [97], [98], [99], [63], [33], [60], [60, 61], [61], [62, 61], [62]]
theorem txN_ok : ∀ i : Nat, i < 12 → txL.getD i 0 = (txN.getD i []).length ∧ ∀ j : Nat, j < (txN.getD i []).length → (txB.getD i []).getD j 0 = Int32.ofNat (tbX (txN.getD i []) j) := by decide +kernel
/-- a literal of the law -/
theorem tx_lit {adK adV : Nat → Nat} {A : Nat → Prop} {U : State} {H : Heap} (h : vk_S 12 txL txB adK adV A U H) (i : Nat) (hi : i < 12) : tbL A (adK i) (adV i) (txN.getD i []) U H := by
  obtain ⟨e1, e2⟩ := txN_ok i hi
  obtain ⟨h1, h2, h3, h4⟩ := h.1 i hi
  rw [e1] at h4
  exact sbQ_ext (f := fun j => (txB.getD i []).getD j 0) ⟨h1, h2, h3, h4⟩ e2
/-- the text of a comparison -/
def cxO (kind : Nat) : List Nat := if kind = 0 then [60] else if kind = 1 then [60, 61] else if kind = 2 then [61] else if kind = 3 then [62, 61] else [62]
def cxS (clock kind num : Nat) : List Nat := if kind = 5 then [97 + clock, 63] else if kind = 6 then [97 + clock, 33] else [97 + clock] ++ cxO kind ++ [48 + num]
/-- a String made: its address, its bytes', its text -/
def sbNew (D : va_G) (cD : ClassId) (A : Nat → Prop) (xs : List Nat) (st : State) (a : Nat) (t : State) : Prop :=
  ∃ (b : Nat) (g : Nat → Int32), st.heap.size ≤ a ∧ st.heap.size ≤ b ∧ va_P D vwCl [(a, .inr (9, [.ref b, .int 0, .int 0, .int 0])), (b, .inl (cD, xs.length, .inl g))] t.heap ∧ (∀ j, j < xs.length → g j = Int32.ofNat (tbX xs j)) ∧ va_D A [(a, .inr (9, [.ref b, .int 0, .int 0, .int 0])), (b, .inl (cD, xs.length, .inl g))] ∧ sbFr st.heap t.heap
def rL_constraint : Room := { frames := 7, cells := 4, slots := 40, locals := 240 }
theorem sb_k5 : ∀ k : Nat, k < 7 → ∀ j : Nat, j < 7 → ¬ k = j → ¬ Int32.ofNat k = Int32.ofNat j := by decide +kernel
set_option maxHeartbeats 4000000 in
theorem tL_constraint {l : Launch} (D : va_G) (cI cJ cD : ClassId) (A : Nat → Prop) (k0 k1 k2 : Nat) (h0 : k0 < 3) (h1 : k1 < 7) (h2 : k2 < 4) : Met l yL_constraint (Cond.code yL_constraint cL_constraint 4 (some (.object "java/lang/String")) :: pvTb) rL_constraint
    (va_Pc [.int (Int32.ofNat k0), .int (Int32.ofNat k1), .int (Int32.ofNat k2)] (fun U => va_K D vwCl (pvTy cI cJ cD) U ∧ (∀ q, U.heap.size ≤ q → A q) ∧ pvTx A U))
    (fun _ st o t => (∃ a : Nat, o = .returned (some (.ref a)) ∧ sbNew D cD A (cxS k0 k1 k2) st a t) ∧ va_F A st t) 4 40 A := by
  refine Met.ofW (cc := cL_constraint) (maxL := 4) (ret := some (.object "java/lang/String")) (by decide +kernel) rfl ?_
  intro p e s m args below meth cQ s₁ B hml hv
  obtain ⟨rfl, hK, hA, hTx⟩ := hv
  have hx := B.exec
  have hb := B.bytes
  have hr := B.returns
  have hts0 := atoms_spec (ws := Cond.code yL_constraint cL_constraint 4 (some (.object "java/lang/String")) :: pvTb) B.pre
  have hts : ∀ w ∈ pvTb, w.before ([.int (Int32.ofNat k0), .int (Int32.ofNat k1), .int (Int32.ofNat k2)] : List Value).toArray s = true := fun w hw => hts0 w (List.mem_cons_of_mem _ hw)
  have hown : s.vm.findClass "EventClockWorkbenchLaw" = some m.cls := findClass_of_methodNamed B.named
  have hlocks := B.notSynchronized
  have M : pvMc "EventClockWorkbenchLaw" cL_constraint 4 pvTb p s m ([.int (Int32.ofNat k0), .int (Int32.ofNat k1), .int (Int32.ofNat k2)] : List Value).toArray meth cQ := ⟨hx, hb, hml, hown, hts, hlocks⟩
  have hS : va_S A s.heap s.heap [] := va_S.rf
  have hl := lv_entry ([.int (Int32.ofNat k0), .int (Int32.ofNat k1), .int (Int32.ofNat k2)]) (n := 4) (Nat.le_of_ble_eq_true rfl)
  rw [lg_entry_eq]
  generalize (lg_sl ([.int (Int32.ofNat k0), .int (Int32.ofNat k1), .int (Int32.ofNat k2)]) ++ List.replicate (4 - (lg_sl ([.int (Int32.ofNat k0), .int (Int32.ofNat k1), .int (Int32.ofNat k2)])).length) Slot.unset).toArray = ls at hl ⊢
  have hl : lv_has ls 4 [(0, .int (Int32.ofNat k0)), (1, .int (Int32.ofNat k1)), (2, .int (Int32.ofNat k2))] := hl
  have hZ : sbZ A s s.heap := hTx.sbZ
  have hR : 7 ≤ (headSpec (Cond.code yL_constraint cL_constraint 4 (some (.object "java/lang/String")) :: pvTb) rL_constraint).room.frames ∧ 240 ≤ (headSpec (Cond.code yL_constraint cL_constraint 4 (some (.object "java/lang/String")) :: pvTb) rL_constraint).room.locals := ⟨Nat.le_refl _, Nat.le_refl _⟩
  obtain ⟨⟨adK, adV, hS9, hR9⟩, -⟩ := hTx
  have lit : ∀ i, i < 12 → tbL (fun q => s.heap.size ≤ q) (adK i) (adV i) (txN.getD i []) s s.heap := fun i hi => (tx_lit hS9 i hi).narrow (fun q h => hA q h)
  have fin9 : ∀ (xs : List Nat) (a b : Nat) (g : Nat → Int32) (H : Heap) (locs : List Loc), xs = cxS k0 k1 k2 → s.heap.size ≤ a → s.heap.size ≤ b → va_P D vwCl [(a, .inr (9, [.ref b, .int 0, .int 0, .int 0])), (b, .inl (cD, xs.length, .inl g))] H → (∀ j, j < xs.length → g j = Int32.ofNat (tbX xs j)) → va_D A [(a, .inr (9, [.ref b, .int 0, .int 0, .int 0])), (b, .inl (cD, xs.length, .inl g))] → va_S A s.heap H locs → sbFr s.heap H → ∀ {pc : Nat}, decode cL_constraint pc = .ok (.areturn, 1) → ∀ ls : Array Slot,
      W p l e (headSpec (Cond.code yL_constraint cL_constraint 4 (some (.object "java/lang/String")) :: pvTb) rL_constraint).room s m ([.int (Int32.ofNat k0), .int (Int32.ofNat k1), .int (Int32.ofNat k2)] : List Value).toArray below meth cQ H locs (0 + 2 + 2) (0 + 20 + 20) (MQ below (fun _ st o t => (∃ a : Nat, o = .returned (some (.ref a)) ∧ sbNew D cD A (cxS k0 k1 k2) st a t) ∧ va_F A st t) ([.int (Int32.ofNat k0), .int (Int32.ofNat k1), .int (Int32.ofNat k2)] : List Value).toArray s 4 40 A) (F0 m pc ls [.ref a]) := by
    intro xs a b g H locs hxs ha hb9 hP hg hD hS hF pc hd ls
    subst hxs
    exact W.aret hx hb hr (Or.inl ⟨_, rfl⟩) (Or.inr ⟨_, rfl⟩) (fun t ht hW => ⟨⟨a, rfl, b, g, ha, hb9, by rw [ht]; exact hP, hg, hD, by rw [ht]; exact hF⟩, hS.F ht⟩) hS.2.2 hd hlocks
  have go21 : ∀ (a b : Nat), tbL (fun q => s.heap.size ≤ q) a b [97 + k0] s s.heap → W p l e (headSpec (Cond.code yL_constraint cL_constraint 4 (some (.object "java/lang/String")) :: pvTb) rL_constraint).room s m ([.int (Int32.ofNat k0), .int (Int32.ofNat k1), .int (Int32.ofNat k2)] : List Value).toArray below meth cQ s.heap [] 0 0 (MQ below (fun _ st o t => (∃ a : Nat, o = .returned (some (.ref a)) ∧ sbNew D cD A (cxS k0 k1 k2) st a t) ∧ va_F A st t) ([.int (Int32.ofNat k0), .int (Int32.ofNat k1), .int (Int32.ofNat k2)] : List Value).toArray s 4 40 A) (F0 m 21 ls [.ref a]) := by
    intro a b hq
    refine lv_astore_n (lv' := [(3, .ref a), (0, .int (Int32.ofNat k0)), (1, .int (Int32.ofNat k1)), (2, .int (Int32.ofNat k2))]) hx hb (show decode cL_constraint 21 = .ok (.astore_n 3, 1) from by decide +kernel) rfl hl (by decide) rfl (fun ls hl => ?_)
    refine lv_iload_n hx hb (show decode cL_constraint 22 = .ok (.iload_n 1, 1) from by decide +kernel) rfl (lv_at hl 2 rfl) ?_
    refine lv_iconst (v := 5) hx hb (show decode cL_constraint 23 = .ok (.iconst 5, 1) from by decide +kernel) (by decide) ?_
    by_cases e5 : k1 = 5
    · subst e5
      refine lv_icmp_ne hx hb (show decode cL_constraint 24 = .ok (.if_icmp .ne 23, 3) from by decide +kernel) (tgt := 47) rfl (fun h9 => absurd h9 (fun h => h rfl)) (fun _ => ?_)
      refine tx_new M hK hZ hA hS hl.1 hR (show decode cL_constraint 27 = .ok (.new 36, 3) from by decide +kernel) (show decode cL_constraint 30 = .ok (.dup, 1) from by decide +kernel) (show decode cL_constraint 31 = .ok (.invokespecial 38, 3) from by decide +kernel) (by decide) ⟨Nat.le_of_ble_eq_true rfl, Nat.le_of_ble_eq_true rfl⟩ (fun h d H locs hP hD hF hh hd0 hS hFr => ?_)
      refine lv_aload_n hx hb (show decode cL_constraint 34 = .ok (.aload_n 3, 1) from by decide +kernel) rfl (lv_at hl 0 rfl) ?_
      refine tx_app M hK hZ hA hS hl.1 hR (H0 := s.heap) hP hD hF (tbL_old hq hFr hh hd0) hFr hh hd0 (Nat.le_of_ble_eq_true rfl) (by intro x hx9; simp only [List.mem_cons, List.not_mem_nil, or_false] at hx9; omega) (show decode cL_constraint 35 = .ok (.invokevirtual 39, 3) from by decide +kernel) (by decide) ⟨Nat.le_of_ble_eq_true rfl, Nat.le_of_ble_eq_true rfl⟩ (fun f1 H locs hP hD hF hS hFr => ?_)
      refine va_ldcS hx hb hown (hR9 5 (by decide)) (show decode cL_constraint 38 = .ok (.ldc 43, 2) from by decide +kernel) ?_
      refine tx_app M hK hZ hA hS hl.1 hR (H0 := s.heap) hP hD hF (tbL_old (lit 5 (by decide)) hFr hh hd0) hFr hh hd0 (Nat.le_of_ble_eq_true rfl) (by decide) (show decode cL_constraint 40 = .ok (.invokevirtual 39, 3) from by decide +kernel) (by decide) ⟨Nat.le_of_ble_eq_true rfl, Nat.le_of_ble_eq_true rfl⟩ (fun f1 H locs hP hD hF hS hFr => ?_)
      refine tx_str M hK hZ hA hS hl.1 hR (H0 := s.heap) hP hD hF hFr hh hd0 (Nat.le_of_ble_eq_true rfl) (by intro x hx9; have hx9 : x ∈ [97 + k0, 63] := hx9; simp only [List.mem_cons, List.not_mem_nil, or_false] at hx9; omega) (show decode cL_constraint 43 = .ok (.invokevirtual 45, 3) from by decide +kernel) (by decide) ⟨Nat.le_of_ble_eq_true rfl, Nat.le_of_ble_eq_true rfl⟩ (fun a9 b9 g9 H locs ha9 hb9 hP hg9 hD hS hFr2 => ?_)
      exact fin9 ([] ++ [97 + k0] ++ [63]) a9 b9 g9 H locs rfl (Nat.le_trans hFr.1 ha9) (Nat.le_trans hFr.1 hb9) hP hg9 hD hS hFr2 (show decode cL_constraint 46 = .ok (.areturn, 1) from by decide +kernel) ls
    refine lv_icmp_ne hx hb (show decode cL_constraint 24 = .ok (.if_icmp .ne 23, 3) from by decide +kernel) (tgt := 47) rfl (fun _ => ?_) (fun h9 => absurd h9 (show ¬ Int32.ofNat k1 = 5 from sb_k5 k1 h1 5 (by decide) e5))
    refine lv_iload_n hx hb (show decode cL_constraint 47 = .ok (.iload_n 1, 1) from by decide +kernel) rfl (lv_at hl 2 rfl) ?_
    refine lv_bipush (v := 6) hx hb (show decode cL_constraint 48 = .ok (.bipush 6, 2) from by decide +kernel) (by decide) ?_
    by_cases e6 : k1 = 6
    · subst e6
      refine lv_icmp_ne hx hb (show decode cL_constraint 50 = .ok (.if_icmp .ne 23, 3) from by decide +kernel) (tgt := 73) rfl (fun h9 => absurd h9 (fun h => h rfl)) (fun _ => ?_)
      refine tx_new M hK hZ hA hS hl.1 hR (show decode cL_constraint 53 = .ok (.new 36, 3) from by decide +kernel) (show decode cL_constraint 56 = .ok (.dup, 1) from by decide +kernel) (show decode cL_constraint 57 = .ok (.invokespecial 38, 3) from by decide +kernel) (by decide) ⟨Nat.le_of_ble_eq_true rfl, Nat.le_of_ble_eq_true rfl⟩ (fun h d H locs hP hD hF hh hd0 hS hFr => ?_)
      refine lv_aload_n hx hb (show decode cL_constraint 60 = .ok (.aload_n 3, 1) from by decide +kernel) rfl (lv_at hl 0 rfl) ?_
      refine tx_app M hK hZ hA hS hl.1 hR (H0 := s.heap) hP hD hF (tbL_old hq hFr hh hd0) hFr hh hd0 (Nat.le_of_ble_eq_true rfl) (by intro x hx9; simp only [List.mem_cons, List.not_mem_nil, or_false] at hx9; omega) (show decode cL_constraint 61 = .ok (.invokevirtual 39, 3) from by decide +kernel) (by decide) ⟨Nat.le_of_ble_eq_true rfl, Nat.le_of_ble_eq_true rfl⟩ (fun f1 H locs hP hD hF hS hFr => ?_)
      refine va_ldcS hx hb hown (hR9 6 (by decide)) (show decode cL_constraint 64 = .ok (.ldc 49, 2) from by decide +kernel) ?_
      refine tx_app M hK hZ hA hS hl.1 hR (H0 := s.heap) hP hD hF (tbL_old (lit 6 (by decide)) hFr hh hd0) hFr hh hd0 (Nat.le_of_ble_eq_true rfl) (by decide) (show decode cL_constraint 66 = .ok (.invokevirtual 39, 3) from by decide +kernel) (by decide) ⟨Nat.le_of_ble_eq_true rfl, Nat.le_of_ble_eq_true rfl⟩ (fun f1 H locs hP hD hF hS hFr => ?_)
      refine tx_str M hK hZ hA hS hl.1 hR (H0 := s.heap) hP hD hF hFr hh hd0 (Nat.le_of_ble_eq_true rfl) (by intro x hx9; have hx9 : x ∈ [97 + k0, 33] := hx9; simp only [List.mem_cons, List.not_mem_nil, or_false] at hx9; omega) (show decode cL_constraint 69 = .ok (.invokevirtual 45, 3) from by decide +kernel) (by decide) ⟨Nat.le_of_ble_eq_true rfl, Nat.le_of_ble_eq_true rfl⟩ (fun a9 b9 g9 H locs ha9 hb9 hP hg9 hD hS hFr2 => ?_)
      exact fin9 ([] ++ [97 + k0] ++ [33]) a9 b9 g9 H locs rfl (Nat.le_trans hFr.1 ha9) (Nat.le_trans hFr.1 hb9) hP hg9 hD hS hFr2 (show decode cL_constraint 72 = .ok (.areturn, 1) from by decide +kernel) ls
    refine lv_icmp_ne hx hb (show decode cL_constraint 50 = .ok (.if_icmp .ne 23, 3) from by decide +kernel) (tgt := 73) rfl (fun _ => ?_) (fun h9 => absurd h9 (show ¬ Int32.ofNat k1 = 6 from sb_k5 k1 h1 6 (by decide) e6))
    refine tx_new M hK hZ hA hS hl.1 hR (show decode cL_constraint 73 = .ok (.new 36, 3) from by decide +kernel) (show decode cL_constraint 76 = .ok (.dup, 1) from by decide +kernel) (show decode cL_constraint 77 = .ok (.invokespecial 38, 3) from by decide +kernel) (by decide) ⟨Nat.le_of_ble_eq_true rfl, Nat.le_of_ble_eq_true rfl⟩ (fun h d H locs hP hD hF hh hd0 hS hFr => ?_)
    refine lv_aload_n hx hb (show decode cL_constraint 80 = .ok (.aload_n 3, 1) from by decide +kernel) rfl (lv_at hl 0 rfl) ?_
    refine tx_app M hK hZ hA hS hl.1 hR (H0 := s.heap) hP hD hF (tbL_old hq hFr hh hd0) hFr hh hd0 (Nat.le_of_ble_eq_true rfl) (by intro x hx9; simp only [List.mem_cons, List.not_mem_nil, or_false] at hx9; omega) (show decode cL_constraint 81 = .ok (.invokevirtual 39, 3) from by decide +kernel) (by decide) ⟨Nat.le_of_ble_eq_true rfl, Nat.le_of_ble_eq_true rfl⟩ (fun f1 H locs hP hD hF hS hFr => ?_)
    have go125 : ∀ (a b : Nat) (ys : List Nat), ys = cxO k1 → ys.length ≤ 2 → (∀ y ∈ ys, y < 128) → tbL (fun q => s.heap.size ≤ q) a b ys s s.heap → W p l e (headSpec (Cond.code yL_constraint cL_constraint 4 (some (.object "java/lang/String")) :: pvTb) rL_constraint).room s m ([.int (Int32.ofNat k0), .int (Int32.ofNat k1), .int (Int32.ofNat k2)] : List Value).toArray below meth cQ H locs (0 + 2) (0 + 20) (MQ below (fun _ st o t => (∃ a : Nat, o = .returned (some (.ref a)) ∧ sbNew D cD A (cxS k0 k1 k2) st a t) ∧ va_F A st t) ([.int (Int32.ofNat k0), .int (Int32.ofNat k1), .int (Int32.ofNat k2)] : List Value).toArray s 4 40 A) (F0 m 125 ls [.ref a, .ref h]) := by
      intro a b ys hys hyl hy7 hq2
      have hlen : ([] ++ [97 + k0] ++ ys : List Nat).length = 1 + ys.length := by simp; omega
      have hlt : ∀ x ∈ ([] ++ [97 + k0] ++ ys ++ [48 + k2] : List Nat), x < 128 := by
        intro x hx9
        rcases List.mem_append.mp hx9 with q | q
        · rcases List.mem_append.mp q with q | q
          · simp only [List.nil_append, List.mem_cons, List.not_mem_nil, or_false] at q; omega
          · exact hy7 x q
        · simp only [List.mem_cons, List.not_mem_nil, or_false] at q; omega
      refine tx_app M hK hZ hA hS hl.1 hR (H0 := s.heap) hP hD hF (tbL_old hq2 hFr hh hd0) hFr hh hd0 (by simp; omega) hy7 (show decode cL_constraint 125 = .ok (.invokevirtual 39, 3) from by decide +kernel) (by decide) ⟨Nat.le_of_ble_eq_true rfl, Nat.le_of_ble_eq_true rfl⟩ (fun f1 H locs hP hD hF hS hFr => ?_)
      refine lv_iload_n hx hb (show decode cL_constraint 128 = .ok (.iload_n 2, 1) from by decide +kernel) rfl (lv_at hl 3 rfl) ?_
      refine tx_appI M hK hZ hA hS hl.1 hR (H0 := s.heap) hP hD hF hFr hh hd0 (by rw [hlen]; omega) h2 (show decode cL_constraint 129 = .ok (.invokevirtual 61, 3) from by decide +kernel) (by decide) ⟨Nat.le_of_ble_eq_true rfl, Nat.le_of_ble_eq_true rfl⟩ (fun f1 H locs hP hD hF hS hFr => ?_)
      refine tx_str M hK hZ hA hS hl.1 hR (H0 := s.heap) hP hD hF hFr hh hd0 (by rw [List.length_append, hlen]; simp; omega) hlt (show decode cL_constraint 132 = .ok (.invokevirtual 45, 3) from by decide +kernel) (by decide) ⟨Nat.le_of_ble_eq_true rfl, Nat.le_of_ble_eq_true rfl⟩ (fun a9 b9 g9 H locs ha9 hb9 hP hg9 hD hS hFr2 => ?_)
      refine fin9 _ a9 b9 g9 H locs ?_ (Nat.le_trans hFr.1 ha9) (Nat.le_trans hFr.1 hb9) hP hg9 hD hS hFr2 (show decode cL_constraint 135 = .ok (.areturn, 1) from by decide +kernel) ls
      rw [hys]
      unfold cxS
      rw [if_neg e5, if_neg e6]
      rfl
    rcases (show k1 = 0 ∨ k1 = 1 ∨ k1 = 2 ∨ k1 = 3 ∨ k1 = 4 by omega) with rfl | rfl | rfl | rfl | rfl
    · refine lv_iload_n hx hb (show decode cL_constraint 84 = .ok (.iload_n 1, 1) from by decide +kernel) rfl (lv_at hl 2 rfl) ?_
      refine lv_if_ne hx hb (show decode cL_constraint 85 = .ok (.ifCond .ne 8, 3) from by decide +kernel) (tgt := 93) rfl (fun h9 => absurd h9 (fun h => h rfl)) (fun _ => ?_)
      refine va_ldcS hx hb hown (hR9 7 (by decide)) (show decode cL_constraint 88 = .ok (.ldc 51, 2) from by decide +kernel) ?_
      refine lv_goto hx hb (show decode cL_constraint 90 = .ok (.goto 35, 3) from by decide +kernel) (tgt := 125) rfl ?_
      exact go125 _ _ _ rfl (by decide) (by decide) (lit 7 (by decide))
    · refine lv_iload_n hx hb (show decode cL_constraint 84 = .ok (.iload_n 1, 1) from by decide +kernel) rfl (lv_at hl 2 rfl) ?_
      refine lv_if_ne hx hb (show decode cL_constraint 85 = .ok (.ifCond .ne 8, 3) from by decide +kernel) (tgt := 93) rfl (fun _ => ?_) (fun h9 => absurd h9 (by decide))
      refine lv_iload_n hx hb (show decode cL_constraint 93 = .ok (.iload_n 1, 1) from by decide +kernel) rfl (lv_at hl 2 rfl) ?_
      refine lv_iconst (v := 1) hx hb (show decode cL_constraint 94 = .ok (.iconst 1, 1) from by decide +kernel) (by decide) ?_
      refine lv_icmp_ne hx hb (show decode cL_constraint 95 = .ok (.if_icmp .ne 8, 3) from by decide +kernel) (tgt := 103) rfl (fun h9 => absurd h9 (fun h => h rfl)) (fun _ => ?_)
      refine va_ldcS hx hb hown (hR9 8 (by decide)) (show decode cL_constraint 98 = .ok (.ldc 53, 2) from by decide +kernel) ?_
      refine lv_goto hx hb (show decode cL_constraint 100 = .ok (.goto 25, 3) from by decide +kernel) (tgt := 125) rfl ?_
      exact go125 _ _ _ rfl (by decide) (by decide) (lit 8 (by decide))
    · refine lv_iload_n hx hb (show decode cL_constraint 84 = .ok (.iload_n 1, 1) from by decide +kernel) rfl (lv_at hl 2 rfl) ?_
      refine lv_if_ne hx hb (show decode cL_constraint 85 = .ok (.ifCond .ne 8, 3) from by decide +kernel) (tgt := 93) rfl (fun _ => ?_) (fun h9 => absurd h9 (by decide))
      refine lv_iload_n hx hb (show decode cL_constraint 93 = .ok (.iload_n 1, 1) from by decide +kernel) rfl (lv_at hl 2 rfl) ?_
      refine lv_iconst (v := 1) hx hb (show decode cL_constraint 94 = .ok (.iconst 1, 1) from by decide +kernel) (by decide) ?_
      refine lv_icmp_ne hx hb (show decode cL_constraint 95 = .ok (.if_icmp .ne 8, 3) from by decide +kernel) (tgt := 103) rfl (fun _ => ?_) (fun h9 => absurd h9 (by decide))
      refine lv_iload_n hx hb (show decode cL_constraint 103 = .ok (.iload_n 1, 1) from by decide +kernel) rfl (lv_at hl 2 rfl) ?_
      refine lv_iconst (v := 2) hx hb (show decode cL_constraint 104 = .ok (.iconst 2, 1) from by decide +kernel) (by decide) ?_
      refine lv_icmp_ne hx hb (show decode cL_constraint 105 = .ok (.if_icmp .ne 8, 3) from by decide +kernel) (tgt := 113) rfl (fun h9 => absurd h9 (fun h => h rfl)) (fun _ => ?_)
      refine va_ldcS hx hb hown (hR9 9 (by decide)) (show decode cL_constraint 108 = .ok (.ldc 55, 2) from by decide +kernel) ?_
      refine lv_goto hx hb (show decode cL_constraint 110 = .ok (.goto 15, 3) from by decide +kernel) (tgt := 125) rfl ?_
      exact go125 _ _ _ rfl (by decide) (by decide) (lit 9 (by decide))
    · refine lv_iload_n hx hb (show decode cL_constraint 84 = .ok (.iload_n 1, 1) from by decide +kernel) rfl (lv_at hl 2 rfl) ?_
      refine lv_if_ne hx hb (show decode cL_constraint 85 = .ok (.ifCond .ne 8, 3) from by decide +kernel) (tgt := 93) rfl (fun _ => ?_) (fun h9 => absurd h9 (by decide))
      refine lv_iload_n hx hb (show decode cL_constraint 93 = .ok (.iload_n 1, 1) from by decide +kernel) rfl (lv_at hl 2 rfl) ?_
      refine lv_iconst (v := 1) hx hb (show decode cL_constraint 94 = .ok (.iconst 1, 1) from by decide +kernel) (by decide) ?_
      refine lv_icmp_ne hx hb (show decode cL_constraint 95 = .ok (.if_icmp .ne 8, 3) from by decide +kernel) (tgt := 103) rfl (fun _ => ?_) (fun h9 => absurd h9 (by decide))
      refine lv_iload_n hx hb (show decode cL_constraint 103 = .ok (.iload_n 1, 1) from by decide +kernel) rfl (lv_at hl 2 rfl) ?_
      refine lv_iconst (v := 2) hx hb (show decode cL_constraint 104 = .ok (.iconst 2, 1) from by decide +kernel) (by decide) ?_
      refine lv_icmp_ne hx hb (show decode cL_constraint 105 = .ok (.if_icmp .ne 8, 3) from by decide +kernel) (tgt := 113) rfl (fun _ => ?_) (fun h9 => absurd h9 (by decide))
      refine lv_iload_n hx hb (show decode cL_constraint 113 = .ok (.iload_n 1, 1) from by decide +kernel) rfl (lv_at hl 2 rfl) ?_
      refine lv_iconst (v := 3) hx hb (show decode cL_constraint 114 = .ok (.iconst 3, 1) from by decide +kernel) (by decide) ?_
      refine lv_icmp_ne hx hb (show decode cL_constraint 115 = .ok (.if_icmp .ne 8, 3) from by decide +kernel) (tgt := 123) rfl (fun h9 => absurd h9 (fun h => h rfl)) (fun _ => ?_)
      refine va_ldcS hx hb hown (hR9 10 (by decide)) (show decode cL_constraint 118 = .ok (.ldc 57, 2) from by decide +kernel) ?_
      refine lv_goto hx hb (show decode cL_constraint 120 = .ok (.goto 5, 3) from by decide +kernel) (tgt := 125) rfl ?_
      exact go125 _ _ _ rfl (by decide) (by decide) (lit 10 (by decide))
    · refine lv_iload_n hx hb (show decode cL_constraint 84 = .ok (.iload_n 1, 1) from by decide +kernel) rfl (lv_at hl 2 rfl) ?_
      refine lv_if_ne hx hb (show decode cL_constraint 85 = .ok (.ifCond .ne 8, 3) from by decide +kernel) (tgt := 93) rfl (fun _ => ?_) (fun h9 => absurd h9 (by decide))
      refine lv_iload_n hx hb (show decode cL_constraint 93 = .ok (.iload_n 1, 1) from by decide +kernel) rfl (lv_at hl 2 rfl) ?_
      refine lv_iconst (v := 1) hx hb (show decode cL_constraint 94 = .ok (.iconst 1, 1) from by decide +kernel) (by decide) ?_
      refine lv_icmp_ne hx hb (show decode cL_constraint 95 = .ok (.if_icmp .ne 8, 3) from by decide +kernel) (tgt := 103) rfl (fun _ => ?_) (fun h9 => absurd h9 (by decide))
      refine lv_iload_n hx hb (show decode cL_constraint 103 = .ok (.iload_n 1, 1) from by decide +kernel) rfl (lv_at hl 2 rfl) ?_
      refine lv_iconst (v := 2) hx hb (show decode cL_constraint 104 = .ok (.iconst 2, 1) from by decide +kernel) (by decide) ?_
      refine lv_icmp_ne hx hb (show decode cL_constraint 105 = .ok (.if_icmp .ne 8, 3) from by decide +kernel) (tgt := 113) rfl (fun _ => ?_) (fun h9 => absurd h9 (by decide))
      refine lv_iload_n hx hb (show decode cL_constraint 113 = .ok (.iload_n 1, 1) from by decide +kernel) rfl (lv_at hl 2 rfl) ?_
      refine lv_iconst (v := 3) hx hb (show decode cL_constraint 114 = .ok (.iconst 3, 1) from by decide +kernel) (by decide) ?_
      refine lv_icmp_ne hx hb (show decode cL_constraint 115 = .ok (.if_icmp .ne 8, 3) from by decide +kernel) (tgt := 123) rfl (fun _ => ?_) (fun h9 => absurd h9 (by decide))
      refine va_ldcS hx hb hown (hR9 11 (by decide)) (show decode cL_constraint 123 = .ok (.ldc 59, 2) from by decide +kernel) ?_
      exact go125 _ _ _ rfl (by decide) (by decide) (lit 11 (by decide))
  rcases (show k0 = 0 ∨ k0 = 1 ∨ k0 = 2 by omega) with rfl | rfl | rfl
  · refine lv_iload_n hx hb (show decode cL_constraint 0 = .ok (.iload_n 0, 1) from by decide +kernel) rfl (lv_at hl 0 rfl) ?_
    refine lv_if_ne hx hb (show decode cL_constraint 1 = .ok (.ifCond .ne 8, 3) from by decide +kernel) (tgt := 9) rfl (fun h9 => absurd h9 (fun h => h rfl)) (fun _ => ?_)
    refine va_ldcS hx hb hown (hR9 2 (by decide)) (show decode cL_constraint 4 = .ok (.ldc 30, 2) from by decide +kernel) ?_
    refine lv_goto hx hb (show decode cL_constraint 6 = .ok (.goto 15, 3) from by decide +kernel) (tgt := 21) rfl ?_
    exact go21 _ _ (lit 2 (by decide))
  · refine lv_iload_n hx hb (show decode cL_constraint 0 = .ok (.iload_n 0, 1) from by decide +kernel) rfl (lv_at hl 0 rfl) ?_
    refine lv_if_ne hx hb (show decode cL_constraint 1 = .ok (.ifCond .ne 8, 3) from by decide +kernel) (tgt := 9) rfl (fun _ => ?_) (fun h9 => absurd h9 (by decide))
    refine lv_iload_n hx hb (show decode cL_constraint 9 = .ok (.iload_n 0, 1) from by decide +kernel) rfl (lv_at hl 0 rfl) ?_
    refine lv_iconst (v := 1) hx hb (show decode cL_constraint 10 = .ok (.iconst 1, 1) from by decide +kernel) (by decide) ?_
    refine lv_icmp_ne hx hb (show decode cL_constraint 11 = .ok (.if_icmp .ne 8, 3) from by decide +kernel) (tgt := 19) rfl (fun h9 => absurd h9 (fun h => h rfl)) (fun _ => ?_)
    refine va_ldcS hx hb hown (hR9 3 (by decide)) (show decode cL_constraint 14 = .ok (.ldc 32, 2) from by decide +kernel) ?_
    refine lv_goto hx hb (show decode cL_constraint 16 = .ok (.goto 5, 3) from by decide +kernel) (tgt := 21) rfl ?_
    exact go21 _ _ (lit 3 (by decide))
  · refine lv_iload_n hx hb (show decode cL_constraint 0 = .ok (.iload_n 0, 1) from by decide +kernel) rfl (lv_at hl 0 rfl) ?_
    refine lv_if_ne hx hb (show decode cL_constraint 1 = .ok (.ifCond .ne 8, 3) from by decide +kernel) (tgt := 9) rfl (fun _ => ?_) (fun h9 => absurd h9 (by decide))
    refine lv_iload_n hx hb (show decode cL_constraint 9 = .ok (.iload_n 0, 1) from by decide +kernel) rfl (lv_at hl 0 rfl) ?_
    refine lv_iconst (v := 1) hx hb (show decode cL_constraint 10 = .ok (.iconst 1, 1) from by decide +kernel) (by decide) ?_
    refine lv_icmp_ne hx hb (show decode cL_constraint 11 = .ok (.if_icmp .ne 8, 3) from by decide +kernel) (tgt := 19) rfl (fun _ => ?_) (fun h9 => absurd h9 (by decide))
    refine va_ldcS hx hb hown (hR9 4 (by decide)) (show decode cL_constraint 19 = .ok (.ldc 34, 2) from by decide +kernel) ?_
    exact go21 _ _ (lit 4 (by decide))
