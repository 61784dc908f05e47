/-! the methods of texts of the JDK -/
def rtJ0_coder_7d493 : Room := { frames := 1, cells := 0, slots := 0, locals := 32 }
set_option maxHeartbeats 1000000 in
theorem tJ0_coder_7d493 {l : Launch} (D : va_G) (cI cJ cD : ClassId) (A : Nat → Prop) (ws : va_W) (a b n : Nat) (t : Nat → Nat)  : Met l yJ0_coder_7d493 (Cond.code yJ0_coder_7d493 cJ0_coder_7d493 1 (some .byte) :: pvTb) rtJ0_coder_7d493 (va_Pc [.ref a] (sbW D cI cJ cD A ws [(a, b, n, (fun j => Int32.ofNat (t j)))] [])) (sbPost D A (fun v ws' => v = some (.int 0) ∧ ws' = ws)) 0 0 A := by
  refine Met.ofW (cc := cJ0_coder_7d493) (maxL := 1) (ret := (some .byte)) (by decide +kernel) rfl ?_
  intro p e s m args below meth cQ s₁ B hml hv
  obtain ⟨rfl, hK, hA, hZ, hQ, hT, hP, hD⟩ := hv
  have hx := B.exec
  have hb := B.bytes
  have hr := B.returns
  have hts0 := atoms_spec (ws := Cond.code yJ0_coder_7d493 cJ0_coder_7d493 1 (some .byte) :: pvTb) B.pre
  have hts : ∀ w ∈ pvTb, w.before ([.ref a] : List Value).toArray s = true := fun w hw => hts0 w (List.mem_cons_of_mem _ hw)
  have hown : s.vm.findClass RJ0 = some m.cls := findClass_of_methodNamed B.named
  have hlocks := B.notSynchronized
  have hS : va_S A s.heap s.heap [] := va_S.rf
  have hl := lv_entry ([.ref a]) (n := 1) (Nat.le_of_ble_eq_true rfl)
  rw [lg_entry_eq]
  generalize (lg_sl ([.ref a]) ++ List.replicate (1 - (lg_sl ([.ref a])).length) Slot.unset).toArray = ls at hl ⊢
  have hl : lv_has ls 1 [(0, .ref a)] := hl
  have q0 : sbQ A a b n (fun j => Int32.ofNat (t j)) s s.heap := hQ _ List.mem_cons_self
  have t0 := q0.2.2.2
  refine va_gets hx hb hZ.1 hS hown (hts _ wd_3_172) (fun _ h9 => h9) (show decode cJ0_coder_7d493 0 = .ok (.getstatic 38, 3) from by decide +kernel) ?_
  refine lv_if_eq hx hb (show decode cJ0_coder_7d493 3 = .ok (.ifCond .eq 10, 3) from by decide +kernel) (tgt := 13) rfl (fun h9 => absurd h9 (by decide)) (fun _ => ?_)
  refine lv_aload_n hx hb (show decode cJ0_coder_7d493 6 = .ok (.aload_n 0, 1) from by decide +kernel) rfl (lv_at hl 0 rfl) ?_
  refine vk_getf hx hb q0.2.1 hS hown (hts _ wd_4_25) (fun _ h9 => h9) (show decode cJ0_coder_7d493 7 = .ok (.getfield 15, 3) from by decide +kernel) ?_
  refine lv_goto hx hb (show decode cJ0_coder_7d493 10 = .ok (.goto 4, 3) from by decide +kernel) (tgt := 14) rfl ?_
  exact W.zret hx hb hr rfl (fun t ht hW => ⟨⟨_, _, rfl, ⟨rfl, rfl⟩, by rw [ht]; exact hP, hD⟩, hS.F ht⟩) hS.2.2 (show decode cJ0_coder_7d493 14 = .ok (.ireturn, 1) from by decide +kernel) hlocks
def rtJ0_isLatin1_aae02 : Room := { frames := 1, cells := 0, slots := 0, locals := 32 }
set_option maxHeartbeats 1000000 in
theorem tJ0_isLatin1_aae02 {l : Launch} (D : va_G) (cI cJ cD : ClassId) (A : Nat → Prop) (ws : va_W) (a b n : Nat) (t : Nat → Nat)  : Met l yJ0_isLatin1_aae02 (Cond.code yJ0_isLatin1_aae02 cJ0_isLatin1_aae02 1 (some .boolean) :: pvTb) rtJ0_isLatin1_aae02 (va_Pc [.ref a] (sbW D cI cJ cD A ws [(a, b, n, (fun j => Int32.ofNat (t j)))] [])) (sbPost D A (fun v ws' => v = some (.int 1) ∧ ws' = ws)) 0 0 A := by
  refine Met.ofW (cc := cJ0_isLatin1_aae02) (maxL := 1) (ret := (some .boolean)) (by decide +kernel) rfl ?_
  intro p e s m args below meth cQ s₁ B hml hv
  obtain ⟨rfl, hK, hA, hZ, hQ, hT, hP, hD⟩ := hv
  have hx := B.exec
  have hb := B.bytes
  have hr := B.returns
  have hts0 := atoms_spec (ws := Cond.code yJ0_isLatin1_aae02 cJ0_isLatin1_aae02 1 (some .boolean) :: pvTb) B.pre
  have hts : ∀ w ∈ pvTb, w.before ([.ref a] : List Value).toArray s = true := fun w hw => hts0 w (List.mem_cons_of_mem _ hw)
  have hown : s.vm.findClass RJ0 = some m.cls := findClass_of_methodNamed B.named
  have hlocks := B.notSynchronized
  have hS : va_S A s.heap s.heap [] := va_S.rf
  have hl := lv_entry ([.ref a]) (n := 1) (Nat.le_of_ble_eq_true rfl)
  rw [lg_entry_eq]
  generalize (lg_sl ([.ref a]) ++ List.replicate (1 - (lg_sl ([.ref a])).length) Slot.unset).toArray = ls at hl ⊢
  have hl : lv_has ls 1 [(0, .ref a)] := hl
  have q0 : sbQ A a b n (fun j => Int32.ofNat (t j)) s s.heap := hQ _ List.mem_cons_self
  have t0 := q0.2.2.2
  refine va_gets hx hb hZ.1 hS hown (hts _ wd_3_172) (fun _ h9 => h9) (show decode cJ0_isLatin1_aae02 0 = .ok (.getstatic 38, 3) from by decide +kernel) ?_
  refine lv_if_eq hx hb (show decode cJ0_isLatin1_aae02 3 = .ok (.ifCond .eq 14, 3) from by decide +kernel) (tgt := 17) rfl (fun h9 => absurd h9 (by decide)) (fun _ => ?_)
  refine lv_aload_n hx hb (show decode cJ0_isLatin1_aae02 6 = .ok (.aload_n 0, 1) from by decide +kernel) rfl (lv_at hl 0 rfl) ?_
  refine vk_getf hx hb q0.2.1 hS hown (hts _ wd_4_25) (fun _ h9 => h9) (show decode cJ0_isLatin1_aae02 7 = .ok (.getfield 15, 3) from by decide +kernel) ?_
  refine lv_if_ne hx hb (show decode cJ0_isLatin1_aae02 10 = .ok (.ifCond .ne 7, 3) from by decide +kernel) (tgt := 17) rfl (fun h9 => absurd h9 (fun h => h rfl)) (fun _ => ?_)
  refine lv_iconst (v := (1)) hx hb (show decode cJ0_isLatin1_aae02 13 = .ok (.iconst 1, 1) from by decide +kernel) (by decide) ?_
  refine lv_goto hx hb (show decode cJ0_isLatin1_aae02 14 = .ok (.goto 4, 3) from by decide +kernel) (tgt := 18) rfl ?_
  exact W.zret hx hb hr rfl (fun t ht hW => ⟨⟨_, _, rfl, ⟨rfl, rfl⟩, by rw [ht]; exact hP, hD⟩, hS.F ht⟩) hS.2.2 (show decode cJ0_isLatin1_aae02 18 = .ok (.ireturn, 1) from by decide +kernel) hlocks
def rtJ0_length_8abf5 : Room := { frames := 2, cells := 0, slots := 0, locals := 64 }
set_option maxHeartbeats 1000000 in
theorem tJ0_length_8abf5 {l : Launch} (D : va_G) (cI cJ cD : ClassId) (A : Nat → Prop) (ws : va_W) (a b n : Nat) (t : Nat → Nat)  : Met l yJ0_length_8abf5 (Cond.code yJ0_length_8abf5 cJ0_length_8abf5 1 (some .int) :: pvTb) rtJ0_length_8abf5 (va_Pc [.ref a] (sbW D cI cJ cD A ws [(a, b, n, (fun j => Int32.ofNat (t j)))] [])) (sbPost D A (fun v ws' => v = some (.int (Int32.ofNat n)) ∧ ws' = ws)) 0 0 A := by
  refine Met.ofW (cc := cJ0_length_8abf5) (maxL := 1) (ret := (some .int)) (by decide +kernel) rfl ?_
  intro p e s m args below meth cQ s₁ B hml hv
  obtain ⟨rfl, hK, hA, hZ, hQ, hT, hP, hD⟩ := hv
  have hx := B.exec
  have hb := B.bytes
  have hr := B.returns
  have hts0 := atoms_spec (ws := Cond.code yJ0_length_8abf5 cJ0_length_8abf5 1 (some .int) :: pvTb) B.pre
  have hts : ∀ w ∈ pvTb, w.before ([.ref a] : List Value).toArray s = true := fun w hw => hts0 w (List.mem_cons_of_mem _ hw)
  have hown : s.vm.findClass RJ0 = some m.cls := findClass_of_methodNamed B.named
  have hlocks := B.notSynchronized
  have hS : va_S A s.heap s.heap [] := va_S.rf
  have hl := lv_entry ([.ref a]) (n := 1) (Nat.le_of_ble_eq_true rfl)
  rw [lg_entry_eq]
  generalize (lg_sl ([.ref a]) ++ List.replicate (1 - (lg_sl ([.ref a])).length) Slot.unset).toArray = ls at hl ⊢
  have hl : lv_has ls 1 [(0, .ref a)] := hl
  have q0 : sbQ A a b n (fun j => Int32.ofNat (t j)) s s.heap := hQ _ List.mem_cons_self
  have t0 := q0.2.2.2
  refine lv_aload_n hx hb (show decode cJ0_length_8abf5 0 = .ok (.aload_n 0, 1) from by decide +kernel) rfl (lv_at hl 0 rfl) ?_
  refine vk_getf hx hb q0.2.2.1 hS hown (hts _ wd_4_24) (fun _ h9 => h9) (show decode cJ0_length_8abf5 1 = .ok (.getfield 9, 3) from by decide +kernel) ?_
  refine va_tlen hx hb t0 hS (v := (Int32.ofNat n)) rfl (show decode cJ0_length_8abf5 4 = .ok (.arraylength, 1) from by decide +kernel) ?_
  refine lv_aload_n hx hb (show decode cJ0_length_8abf5 5 = .ok (.aload_n 0, 1) from by decide +kernel) rfl (lv_at hl 0 rfl) ?_
  have q0h := q0.kept hS.2.1
  refine sb_go (va_runV (C := "java/lang/String") (As := []) (rest := [.int (Int32.ofNat n)]) ⟨hx, hb, hml, hown, hts⟩ (tJ0_coder_7d493 D cI cJ cD A ws a b n t) ⟨callB_of 0 hts (pvGood_c pvTb_g wd_3_171) rfl rfl rfl (hts _ wd_1_18) (hts _ wd_3_168) ⟨by decide, by decide, by decide +kernel⟩ ⟨Nat.le_of_ble_eq_true rfl, Nat.le_of_ble_eq_true rfl⟩, hts _ wd_3_169, hts _ wd_3_170⟩ ⟨sbW.blind, q0h.recv, fun U hU hW => ⟨rfl, sbW.at hK hZ hS (fun _ h => h) (fun q h => hA q (Nat.le_trans hS.1 h)) (sbQ_ hS hQ) (fun _ h => absurd h List.not_mem_nil) hP hD hU hW⟩⟩ rfl rfl hl.1 rfl (lv_room (Nat.le_of_ble_eq_true rfl)) (show decode cJ0_length_8abf5 6 = .ok (.invokevirtual 335, 3) from by decide +kernel) ⟨(Nat.le_of_ble_eq_true rfl), (Nat.le_of_ble_eq_true rfl)⟩) hS (fun _ h => h) (fun v9 w9 H1 locs hp hP hD hS hz9 hk9 => ?_)
  obtain ⟨rfl, e9⟩ := hp
  have e9 := e9.symm
  subst e9
  refine W.eq (g2 := F0 m 9 ls [.int 0, .int (Int32.ofNat n)]) rfl ?_
  refine lv_ishr hx hb (show decode cJ0_length_8abf5 9 = .ok (.ishr, 1) from by decide +kernel) ?_
  refine lv_topi fun y9 hy9 => ?_
  obtain rfl : y9 = (Int32.ofNat n) := hy9.trans (sb_sr0 _)
  exact W.iret hx hb hr (fun t ht hW => ⟨⟨_, _, rfl, ⟨rfl, rfl⟩, by rw [ht]; exact hP, hD⟩, hS.F ht⟩) hS.2.2 (show decode cJ0_length_8abf5 10 = .ok (.ireturn, 1) from by decide +kernel) hlocks
def rtJ3_checkIndexN : Room := { frames := 1, cells := 0, slots := 0, locals := 32 }
set_option maxHeartbeats 1000000 in
theorem tJ3_checkIndexN {l : Launch} (D : va_G) (cI cJ cD : ClassId) (A : Nat → Prop) (ws : va_W) (x n : Nat) (fr : Nat) (hn : n < 2 ^ 31) (hx9 : x < n) : Met l yJ3_checkIndex_8e157 (Cond.code yJ3_checkIndex_8e157 cJ3_checkIndex_8e157 3 (some .int) :: pvTb) rtJ3_checkIndexN (va_Pc [.int (Int32.ofNat x), .int (Int32.ofNat n), .null] (sbW D cI cJ cD A ws [] [])) (sbPost D A (fun v ws' => v = some (.int (Int32.ofNat x)) ∧ ws' = ws)) 0 0 A := by
  refine Met.ofW (cc := cJ3_checkIndex_8e157) (maxL := 3) (ret := (some .int)) (by decide +kernel) rfl ?_
  intro p e s m args below meth cQ s₁ B hml hv
  obtain ⟨rfl, hK, hA, hZ, hQ, hT, hP, hD⟩ := hv
  have hx := B.exec
  have hb := B.bytes
  have hr := B.returns
  have hts0 := atoms_spec (ws := Cond.code yJ3_checkIndex_8e157 cJ3_checkIndex_8e157 3 (some .int) :: pvTb) B.pre
  have hts : ∀ w ∈ pvTb, w.before ([.int (Int32.ofNat x), .int (Int32.ofNat n), .null] : List Value).toArray s = true := fun w hw => hts0 w (List.mem_cons_of_mem _ hw)
  have hown : s.vm.findClass RJ3 = some m.cls := findClass_of_methodNamed B.named
  have hlocks := B.notSynchronized
  have hS : va_S A s.heap s.heap [] := va_S.rf
  have hl := lv_entry ([.int (Int32.ofNat x), .int (Int32.ofNat n), .null]) (n := 3) (Nat.le_of_ble_eq_true rfl)
  rw [lg_entry_eq]
  generalize (lg_sl ([.int (Int32.ofNat x), .int (Int32.ofNat n), .null]) ++ List.replicate (3 - (lg_sl ([.int (Int32.ofNat x), .int (Int32.ofNat n), .null])).length) Slot.unset).toArray = ls at hl ⊢
  have hl : lv_has ls 3 [(0, .int (Int32.ofNat x)), (1, .int (Int32.ofNat n)), (2, .null)] := hl
  refine lv_iload_n hx hb (show decode cJ3_checkIndex_8e157 0 = .ok (.iload_n 0, 1) from by decide +kernel) rfl (lv_at hl 0 rfl) ?_
  refine lv_if_lt hx hb (show decode cJ3_checkIndex_8e157 1 = .ok (.ifCond .lt 8, 3) from by decide +kernel) (tgt := 9) rfl (fun h9 => absurd h9 (sb_ng (by omega))) (fun _ => ?_)
  refine lv_iload_n hx hb (show decode cJ3_checkIndex_8e157 4 = .ok (.iload_n 0, 1) from by decide +kernel) rfl (lv_at hl 0 rfl) ?_
  refine lv_iload_n hx hb (show decode cJ3_checkIndex_8e157 5 = .ok (.iload_n 1, 1) from by decide +kernel) rfl (lv_at hl 1 rfl) ?_
  refine lv_icmp_lt hx hb (show decode cJ3_checkIndex_8e157 6 = .ok (.if_icmp .lt 10, 3) from by decide +kernel) (tgt := 16) rfl (fun _ => ?_) (fun h9 => absurd (sb_lt hx9 hn) h9)
  refine lv_iload_n hx hb (show decode cJ3_checkIndex_8e157 16 = .ok (.iload_n 0, 1) from by decide +kernel) rfl (lv_at hl 0 rfl) ?_
  exact W.iret hx hb hr (fun t ht hW => ⟨⟨_, _, rfl, ⟨rfl, rfl⟩, by rw [ht]; exact hP, hD⟩, hS.F ht⟩) hS.2.2 (show decode cJ3_checkIndex_8e157 17 = .ok (.ireturn, 1) from by decide +kernel) hlocks
def rtJ3_checkIndexR : Room := { frames := 1, cells := 0, slots := 0, locals := 32 }
set_option maxHeartbeats 1000000 in
theorem tJ3_checkIndexR {l : Launch} (D : va_G) (cI cJ cD : ClassId) (A : Nat → Prop) (ws : va_W) (x n : Nat) (fr : Nat) (hn : n < 2 ^ 31) (hx9 : x < n) : Met l yJ3_checkIndex_8e157 (Cond.code yJ3_checkIndex_8e157 cJ3_checkIndex_8e157 3 (some .int) :: pvTb) rtJ3_checkIndexR (va_Pc [.int (Int32.ofNat x), .int (Int32.ofNat n), .ref fr] (sbW D cI cJ cD A ws [] [])) (sbPost D A (fun v ws' => v = some (.int (Int32.ofNat x)) ∧ ws' = ws)) 0 0 A := by
  refine Met.ofW (cc := cJ3_checkIndex_8e157) (maxL := 3) (ret := (some .int)) (by decide +kernel) rfl ?_
  intro p e s m args below meth cQ s₁ B hml hv
  obtain ⟨rfl, hK, hA, hZ, hQ, hT, hP, hD⟩ := hv
  have hx := B.exec
  have hb := B.bytes
  have hr := B.returns
  have hts0 := atoms_spec (ws := Cond.code yJ3_checkIndex_8e157 cJ3_checkIndex_8e157 3 (some .int) :: pvTb) B.pre
  have hts : ∀ w ∈ pvTb, w.before ([.int (Int32.ofNat x), .int (Int32.ofNat n), .ref fr] : List Value).toArray s = true := fun w hw => hts0 w (List.mem_cons_of_mem _ hw)
  have hown : s.vm.findClass RJ3 = some m.cls := findClass_of_methodNamed B.named
  have hlocks := B.notSynchronized
  have hS : va_S A s.heap s.heap [] := va_S.rf
  have hl := lv_entry ([.int (Int32.ofNat x), .int (Int32.ofNat n), .ref fr]) (n := 3) (Nat.le_of_ble_eq_true rfl)
  rw [lg_entry_eq]
  generalize (lg_sl ([.int (Int32.ofNat x), .int (Int32.ofNat n), .ref fr]) ++ List.replicate (3 - (lg_sl ([.int (Int32.ofNat x), .int (Int32.ofNat n), .ref fr])).length) Slot.unset).toArray = ls at hl ⊢
  have hl : lv_has ls 3 [(0, .int (Int32.ofNat x)), (1, .int (Int32.ofNat n)), (2, .ref fr)] := hl
  refine lv_iload_n hx hb (show decode cJ3_checkIndex_8e157 0 = .ok (.iload_n 0, 1) from by decide +kernel) rfl (lv_at hl 0 rfl) ?_
  refine lv_if_lt hx hb (show decode cJ3_checkIndex_8e157 1 = .ok (.ifCond .lt 8, 3) from by decide +kernel) (tgt := 9) rfl (fun h9 => absurd h9 (sb_ng (by omega))) (fun _ => ?_)
  refine lv_iload_n hx hb (show decode cJ3_checkIndex_8e157 4 = .ok (.iload_n 0, 1) from by decide +kernel) rfl (lv_at hl 0 rfl) ?_
  refine lv_iload_n hx hb (show decode cJ3_checkIndex_8e157 5 = .ok (.iload_n 1, 1) from by decide +kernel) rfl (lv_at hl 1 rfl) ?_
  refine lv_icmp_lt hx hb (show decode cJ3_checkIndex_8e157 6 = .ok (.if_icmp .lt 10, 3) from by decide +kernel) (tgt := 16) rfl (fun _ => ?_) (fun h9 => absurd (sb_lt hx9 hn) h9)
  refine lv_iload_n hx hb (show decode cJ3_checkIndex_8e157 16 = .ok (.iload_n 0, 1) from by decide +kernel) rfl (lv_at hl 0 rfl) ?_
  exact W.iret hx hb hr (fun t ht hW => ⟨⟨_, _, rfl, ⟨rfl, rfl⟩, by rw [ht]; exact hP, hD⟩, hS.F ht⟩) hS.2.2 (show decode cJ3_checkIndex_8e157 17 = .ok (.ireturn, 1) from by decide +kernel) hlocks
def rtJ0_checkIndex_df160 : Room := { frames := 2, cells := 0, slots := 0, locals := 64 }
set_option maxHeartbeats 1000000 in
theorem tJ0_checkIndex_df160 {l : Launch} (D : va_G) (cI cJ cD : ClassId) (A : Nat → Prop) (ws : va_W) (x n : Nat) (hn : n < 2 ^ 31) (hx9 : x < n) : Met l yJ0_checkIndex_df160 (Cond.code yJ0_checkIndex_df160 cJ0_checkIndex_df160 2 none :: pvTb) rtJ0_checkIndex_df160 (va_Pc [.int (Int32.ofNat x), .int (Int32.ofNat n)] (sbW D cI cJ cD A ws [] [])) (sbPost D A (fun v ws' => v = none ∧ ws' = ws)) 0 0 A := by
  refine Met.ofW (cc := cJ0_checkIndex_df160) (maxL := 2) (ret := none) (by decide +kernel) rfl ?_
  intro p e s m args below meth cQ s₁ B hml hv
  obtain ⟨rfl, hK, hA, hZ, hQ, hT, hP, hD⟩ := hv
  have hx := B.exec
  have hb := B.bytes
  have hr := B.returns
  have hts0 := atoms_spec (ws := Cond.code yJ0_checkIndex_df160 cJ0_checkIndex_df160 2 none :: pvTb) B.pre
  have hts : ∀ w ∈ pvTb, w.before ([.int (Int32.ofNat x), .int (Int32.ofNat n)] : List Value).toArray s = true := fun w hw => hts0 w (List.mem_cons_of_mem _ hw)
  have hown : s.vm.findClass RJ0 = some m.cls := findClass_of_methodNamed B.named
  have hlocks := B.notSynchronized
  have hS : va_S A s.heap s.heap [] := va_S.rf
  have hl := lv_entry ([.int (Int32.ofNat x), .int (Int32.ofNat n)]) (n := 2) (Nat.le_of_ble_eq_true rfl)
  rw [lg_entry_eq]
  generalize (lg_sl ([.int (Int32.ofNat x), .int (Int32.ofNat n)]) ++ List.replicate (2 - (lg_sl ([.int (Int32.ofNat x), .int (Int32.ofNat n)])).length) Slot.unset).toArray = ls at hl ⊢
  have hl : lv_has ls 2 [(0, .int (Int32.ofNat x)), (1, .int (Int32.ofNat n))] := hl
  have hfz0 := hZ.2.1
  rcases hfz0 with hfz | ⟨fr, hfz⟩
  · refine lv_iload_n hx hb (show decode cJ0_checkIndex_df160 0 = .ok (.iload_n 0, 1) from by decide +kernel) rfl (lv_at hl 0 rfl) ?_
    refine lv_iload_n hx hb (show decode cJ0_checkIndex_df160 1 = .ok (.iload_n 1, 1) from by decide +kernel) rfl (lv_at hl 1 rfl) ?_
    refine va_gets hx hb hfz hS hown (hts _ wd_3_150) (fun _ h9 => h9) (show decode cJ0_checkIndex_df160 2 = .ok (.getstatic 1053, 3) from by decide +kernel) ?_
    refine sb_go (va_runS (As := [.int (Int32.ofNat x), .int (Int32.ofNat n), .null]) (rest := []) ⟨hx, hb, hml, hown, hts⟩ (tJ3_checkIndexN D cI cJ cD A ws x n 0 hn hx9) ⟨callB_of 3 hts (pvGood_c pvTb_g wd_4_86) rfl rfl rfl (hts _ wd_1_22) (hts _ wd_4_84) ⟨by decide, by decide, by decide +kernel⟩ ⟨Nat.le_of_ble_eq_true rfl, Nat.le_of_ble_eq_true rfl⟩, hts _ wd_4_85⟩ ⟨sbW.blind, fun U hU hW => ⟨rfl, sbW.at hK hZ hS (fun _ h => h) (fun q h => hA q (Nat.le_trans hS.1 h)) (fun _ h => absurd h List.not_mem_nil) (fun _ h => absurd h List.not_mem_nil) hP hD hU hW⟩⟩ rfl rfl hl.1 rfl (lv_room (Nat.le_of_ble_eq_true rfl)) (show decode cJ0_checkIndex_df160 5 = .ok (.invokestatic 1059, 3) from by decide +kernel) ⟨(Nat.le_of_ble_eq_true rfl), (Nat.le_of_ble_eq_true rfl)⟩) hS (fun _ h => h) (fun v9 w9 H1 locs hp hP hD hS hz9 hk9 => ?_)
    obtain ⟨rfl, e9⟩ := hp
    have e9 := e9.symm
    subst e9
    refine W.eq (g2 := F0 m 8 ls [.int (Int32.ofNat x)]) rfl ?_
    refine lv_pop hx hb (show decode cJ0_checkIndex_df160 8 = .ok (.pop, 1) from by decide +kernel) rfl ?_
    exact W.vret hx hb hr (fun t ht hW => ⟨⟨_, _, rfl, ⟨rfl, rfl⟩, by rw [ht]; exact hP, hD⟩, hS.F ht⟩) hS.2.2 (show decode cJ0_checkIndex_df160 9 = .ok (.return_, 1) from by decide +kernel) hlocks
  · refine lv_iload_n hx hb (show decode cJ0_checkIndex_df160 0 = .ok (.iload_n 0, 1) from by decide +kernel) rfl (lv_at hl 0 rfl) ?_
    refine lv_iload_n hx hb (show decode cJ0_checkIndex_df160 1 = .ok (.iload_n 1, 1) from by decide +kernel) rfl (lv_at hl 1 rfl) ?_
    refine va_gets hx hb hfz hS hown (hts _ wd_3_150) (fun _ h9 => h9) (show decode cJ0_checkIndex_df160 2 = .ok (.getstatic 1053, 3) from by decide +kernel) ?_
    refine sb_go (va_runS (As := [.int (Int32.ofNat x), .int (Int32.ofNat n), .ref fr]) (rest := []) ⟨hx, hb, hml, hown, hts⟩ (tJ3_checkIndexR D cI cJ cD A ws x n fr hn hx9) ⟨callB_of 3 hts (pvGood_c pvTb_g wd_4_86) rfl rfl rfl (hts _ wd_1_22) (hts _ wd_4_84) ⟨by decide, by decide, by decide +kernel⟩ ⟨Nat.le_of_ble_eq_true rfl, Nat.le_of_ble_eq_true rfl⟩, hts _ wd_4_85⟩ ⟨sbW.blind, fun U hU hW => ⟨rfl, sbW.at hK hZ hS (fun _ h => h) (fun q h => hA q (Nat.le_trans hS.1 h)) (fun _ h => absurd h List.not_mem_nil) (fun _ h => absurd h List.not_mem_nil) hP hD hU hW⟩⟩ rfl rfl hl.1 rfl (lv_room (Nat.le_of_ble_eq_true rfl)) (show decode cJ0_checkIndex_df160 5 = .ok (.invokestatic 1059, 3) from by decide +kernel) ⟨(Nat.le_of_ble_eq_true rfl), (Nat.le_of_ble_eq_true rfl)⟩) hS (fun _ h => h) (fun v9 w9 H1 locs hp hP hD hS hz9 hk9 => ?_)
    obtain ⟨rfl, e9⟩ := hp
    have e9 := e9.symm
    subst e9
    refine W.eq (g2 := F0 m 8 ls [.int (Int32.ofNat x)]) rfl ?_
    refine lv_pop hx hb (show decode cJ0_checkIndex_df160 8 = .ok (.pop, 1) from by decide +kernel) rfl ?_
    exact W.vret hx hb hr (fun t ht hW => ⟨⟨_, _, rfl, ⟨rfl, rfl⟩, by rw [ht]; exact hP, hD⟩, hS.F ht⟩) hS.2.2 (show decode cJ0_checkIndex_df160 9 = .ok (.return_, 1) from by decide +kernel) hlocks
def rtJ1_charAt_3b067 : Room := { frames := 3, cells := 0, slots := 0, locals := 96 }
set_option maxHeartbeats 1000000 in
theorem tJ1_charAt_3b067 {l : Launch} (D : va_G) (cI cJ cD : ClassId) (A : Nat → Prop) (ws : va_W) (b n x : Nat) (t : Nat → Nat) (hn : n < 2 ^ 31) (hx9 : x < n) (ht : ∀ q, q < n → t q < 128) : Met l yJ1_charAt_3b067 (Cond.code yJ1_charAt_3b067 cJ1_charAt_3b067 2 (some .char) :: pvTb) rtJ1_charAt_3b067 (va_Pc [.ref b, .int (Int32.ofNat x)] (sbW D cI cJ cD A ws [] [(b, n, (fun j => Int32.ofNat (t j)))])) (sbPost D A (fun v ws' => v = some (.int (Int32.ofNat (t x))) ∧ ws' = ws)) 0 0 A := by
  refine Met.ofW (cc := cJ1_charAt_3b067) (maxL := 2) (ret := (some .char)) (by decide +kernel) rfl ?_
  intro p e s m args below meth cQ s₁ B hml hv
  obtain ⟨rfl, hK, hA, hZ, hQ, hT, hP, hD⟩ := hv
  have hx := B.exec
  have hb := B.bytes
  have hr := B.returns
  have hts0 := atoms_spec (ws := Cond.code yJ1_charAt_3b067 cJ1_charAt_3b067 2 (some .char) :: pvTb) B.pre
  have hts : ∀ w ∈ pvTb, w.before ([.ref b, .int (Int32.ofNat x)] : List Value).toArray s = true := fun w hw => hts0 w (List.mem_cons_of_mem _ hw)
  have hown : s.vm.findClass RJ1 = some m.cls := findClass_of_methodNamed B.named
  have hlocks := B.notSynchronized
  have hS : va_S A s.heap s.heap [] := va_S.rf
  have hl := lv_entry ([.ref b, .int (Int32.ofNat x)]) (n := 2) (Nat.le_of_ble_eq_true rfl)
  rw [lg_entry_eq]
  generalize (lg_sl ([.ref b, .int (Int32.ofNat x)]) ++ List.replicate (2 - (lg_sl ([.ref b, .int (Int32.ofNat x)])).length) Slot.unset).toArray = ls at hl ⊢
  have hl : lv_has ls 2 [(0, .ref b), (1, .int (Int32.ofNat x))] := hl
  have t0 : va_T .byte b n (fun q => .int ((fun j => Int32.ofNat (t j)) q)) A s s.heap := hT _ List.mem_cons_self
  refine lv_iload_n hx hb (show decode cJ1_charAt_3b067 0 = .ok (.iload_n 1, 1) from by decide +kernel) rfl (lv_at hl 1 rfl) ?_
  refine lv_aload_n hx hb (show decode cJ1_charAt_3b067 1 = .ok (.aload_n 0, 1) from by decide +kernel) rfl (lv_at hl 0 rfl) ?_
  refine va_tlen hx hb t0 hS (v := (Int32.ofNat n)) rfl (show decode cJ1_charAt_3b067 2 = .ok (.arraylength, 1) from by decide +kernel) ?_
  refine sb_go (va_runS (As := [.int (Int32.ofNat x), .int (Int32.ofNat n)]) (rest := []) ⟨hx, hb, hml, hown, hts⟩ (tJ0_checkIndex_df160 D cI cJ cD A ws x n hn hx9) ⟨callB_of 2 hts (pvGood_c pvTb_g wd_4_83) rfl rfl rfl (hts _ wd_1_18) (hts _ wd_4_81) ⟨by decide, by decide, by decide +kernel⟩ ⟨Nat.le_of_ble_eq_true rfl, Nat.le_of_ble_eq_true rfl⟩, hts _ wd_4_82⟩ ⟨sbW.blind, fun U hU hW => ⟨rfl, sbW.at hK hZ hS (fun _ h => h) (fun q h => hA q (Nat.le_trans hS.1 h)) (fun _ h => absurd h List.not_mem_nil) (fun _ h => absurd h List.not_mem_nil) hP hD hU hW⟩⟩ rfl rfl hl.1 rfl (lv_room (Nat.le_of_ble_eq_true rfl)) (show decode cJ1_charAt_3b067 3 = .ok (.invokestatic 9, 3) from by decide +kernel) ⟨(Nat.le_of_ble_eq_true rfl), (Nat.le_of_ble_eq_true rfl)⟩) hS (fun _ h => h) (fun v9 w9 H1 locs hp hP hD hS hz9 hk9 => ?_)
  obtain ⟨rfl, e9⟩ := hp
  have e9 := e9.symm
  subst e9
  refine W.eq (g2 := F0 m 6 ls []) rfl ?_
  refine lv_aload_n hx hb (show decode cJ1_charAt_3b067 6 = .ok (.aload_n 0, 1) from by decide +kernel) rfl (lv_at hl 0 rfl) ?_
  refine lv_iload_n hx hb (show decode cJ1_charAt_3b067 7 = .ok (.iload_n 1, 1) from by decide +kernel) rfl (lv_at hl 1 rfl) ?_
  refine va_tb hx hb t0 hS (sb_in hx9 hn) (v := .int (Int32.ofNat (t x))) (by rw [sb_cn (by omega)]) (show decode cJ1_charAt_3b067 8 = .ok (.baload, 1) from by decide +kernel) ?_
  refine lv_sipush (v := (255)) hx hb (show decode cJ1_charAt_3b067 9 = .ok (.sipush 255, 3) from by decide +kernel) (by decide) ?_
  refine lv_iand hx hb (show decode cJ1_charAt_3b067 12 = .ok (.iand, 1) from by decide +kernel) ?_
  refine lv_topi fun y9 hy9 => ?_
  obtain rfl : y9 = (Int32.ofNat (t x)) := hy9.trans (sb_ch _ (ht x hx9)).1
  refine lv_i2c (v := (Int32.ofNat (t x))) hx hb (show decode cJ1_charAt_3b067 13 = .ok (.i2c, 1) from by decide +kernel) (sb_ch _ (ht x hx9)).2.1 ?_
  exact W.zret hx hb hr (sb_ch _ (ht x hx9)).2.2.1 (fun t ht hW => ⟨⟨_, _, rfl, ⟨rfl, rfl⟩, by rw [ht]; exact hP, hD⟩, hS.F ht⟩) hS.2.2 (show decode cJ1_charAt_3b067 14 = .ok (.ireturn, 1) from by decide +kernel) hlocks
def rtJ0_charAt_5068e : Room := { frames := 4, cells := 0, slots := 0, locals := 128 }
set_option maxHeartbeats 1000000 in
theorem tJ0_charAt_5068e {l : Launch} (D : va_G) (cI cJ cD : ClassId) (A : Nat → Prop) (ws : va_W) (a b n : Nat) (t : Nat → Nat) (x : Nat) (hn : n < 2 ^ 31) (hx9 : x < n) (ht : ∀ q, q < n → t q < 128) : Met l yJ0_charAt_5068e (Cond.code yJ0_charAt_5068e cJ0_charAt_5068e 2 (some .char) :: pvTb) rtJ0_charAt_5068e (va_Pc [.ref a, .int (Int32.ofNat x)] (sbW D cI cJ cD A ws [(a, b, n, (fun j => Int32.ofNat (t j)))] [])) (sbPost D A (fun v ws' => v = some (.int (Int32.ofNat (t x))) ∧ ws' = ws)) 0 0 A := by
  refine Met.ofW (cc := cJ0_charAt_5068e) (maxL := 2) (ret := (some .char)) (by decide +kernel) rfl ?_
  intro p e s m args below meth cQ s₁ B hml hv
  obtain ⟨rfl, hK, hA, hZ, hQ, hT, hP, hD⟩ := hv
  have hx := B.exec
  have hb := B.bytes
  have hr := B.returns
  have hts0 := atoms_spec (ws := Cond.code yJ0_charAt_5068e cJ0_charAt_5068e 2 (some .char) :: pvTb) B.pre
  have hts : ∀ w ∈ pvTb, w.before ([.ref a, .int (Int32.ofNat x)] : List Value).toArray s = true := fun w hw => hts0 w (List.mem_cons_of_mem _ hw)
  have hown : s.vm.findClass RJ0 = some m.cls := findClass_of_methodNamed B.named
  have hlocks := B.notSynchronized
  have hS : va_S A s.heap s.heap [] := va_S.rf
  have hl := lv_entry ([.ref a, .int (Int32.ofNat x)]) (n := 2) (Nat.le_of_ble_eq_true rfl)
  rw [lg_entry_eq]
  generalize (lg_sl ([.ref a, .int (Int32.ofNat x)]) ++ List.replicate (2 - (lg_sl ([.ref a, .int (Int32.ofNat x)])).length) Slot.unset).toArray = ls at hl ⊢
  have hl : lv_has ls 2 [(0, .ref a), (1, .int (Int32.ofNat x))] := hl
  have q0 : sbQ A a b n (fun j => Int32.ofNat (t j)) s s.heap := hQ _ List.mem_cons_self
  have t0 := q0.2.2.2
  refine lv_aload_n hx hb (show decode cJ0_charAt_5068e 0 = .ok (.aload_n 0, 1) from by decide +kernel) rfl (lv_at hl 0 rfl) ?_
  have q0h := q0.kept hS.2.1
  refine sb_go (va_runV (C := "java/lang/String") (As := []) (rest := []) ⟨hx, hb, hml, hown, hts⟩ (tJ0_isLatin1_aae02 D cI cJ cD A ws a b n t) ⟨callB_of 0 hts (pvGood_c pvTb_g wd_4_77) rfl rfl rfl (hts _ wd_1_18) (hts _ wd_4_74) ⟨by decide, by decide, by decide +kernel⟩ ⟨Nat.le_of_ble_eq_true rfl, Nat.le_of_ble_eq_true rfl⟩, hts _ wd_4_75, hts _ wd_4_76⟩ ⟨sbW.blind, q0h.recv, fun U hU hW => ⟨rfl, sbW.at hK hZ hS (fun _ h => h) (fun q h => hA q (Nat.le_trans hS.1 h)) (sbQ_ hS hQ) (fun _ h => absurd h List.not_mem_nil) hP hD hU hW⟩⟩ rfl rfl hl.1 rfl (lv_room (Nat.le_of_ble_eq_true rfl)) (show decode cJ0_charAt_5068e 1 = .ok (.invokevirtual 492, 3) from by decide +kernel) ⟨(Nat.le_of_ble_eq_true rfl), (Nat.le_of_ble_eq_true rfl)⟩) hS (fun _ h => h) (fun v9 w9 H1 locs hp hP hD hS hz9 hk9 => ?_)
  obtain ⟨rfl, e9⟩ := hp
  have e9 := e9.symm
  subst e9
  refine W.eq (g2 := F0 m 4 ls [.int 1]) rfl ?_
  refine lv_if_eq hx hb (show decode cJ0_charAt_5068e 4 = .ok (.ifCond .eq 12, 3) from by decide +kernel) (tgt := 16) rfl (fun h9 => absurd h9 (by decide)) (fun _ => ?_)
  refine lv_aload_n hx hb (show decode cJ0_charAt_5068e 7 = .ok (.aload_n 0, 1) from by decide +kernel) rfl (lv_at hl 0 rfl) ?_
  refine vk_getf hx hb q0.2.2.1 hS hown (hts _ wd_4_24) (fun _ h9 => h9) (show decode cJ0_charAt_5068e 8 = .ok (.getfield 9, 3) from by decide +kernel) ?_
  refine lv_iload_n hx hb (show decode cJ0_charAt_5068e 11 = .ok (.iload_n 1, 1) from by decide +kernel) rfl (lv_at hl 1 rfl) ?_
  refine sb_go (va_runS (As := [.ref b, .int (Int32.ofNat x)]) (rest := []) ⟨hx, hb, hml, hown, hts⟩ (tJ1_charAt_3b067 D cI cJ cD A ws b n x t hn hx9 ht) ⟨callB_of 2 hts (pvGood_c pvTb_g wd_4_80) rfl rfl rfl (hts _ wd_1_23) (hts _ wd_4_78) ⟨by decide, by decide, by decide +kernel⟩ ⟨Nat.le_of_ble_eq_true rfl, Nat.le_of_ble_eq_true rfl⟩, hts _ wd_4_79⟩ ⟨sbW.blind, fun U hU hW => ⟨rfl, sbW.at hK hZ hS (fun _ h => h) (fun q h => hA q (Nat.le_trans hS.1 h)) (fun _ h => absurd h List.not_mem_nil) (fun q hq => by obtain rfl := List.mem_singleton.mp hq; exact t0.kept hS.2.1) hP hD hU hW⟩⟩ rfl rfl hl.1 rfl (lv_room (Nat.le_of_ble_eq_true rfl)) (show decode cJ0_charAt_5068e 12 = .ok (.invokestatic 495, 3) from by decide +kernel) ⟨(Nat.le_of_ble_eq_true rfl), (Nat.le_of_ble_eq_true rfl)⟩) hS (fun _ h => h) (fun v9 w9 H1 locs hp hP hD hS hz9 hk9 => ?_)
  obtain ⟨rfl, e9⟩ := hp
  have e9 := e9.symm
  subst e9
  refine W.eq (g2 := F0 m 15 ls [.int (Int32.ofNat (t x))]) rfl ?_
  exact W.zret hx hb hr (sb_ch _ (ht x hx9)).2.2.1 (fun t ht hW => ⟨⟨_, _, rfl, ⟨rfl, rfl⟩, by rw [ht]; exact hP, hD⟩, hS.F ht⟩) hS.2.2 (show decode cJ0_charAt_5068e 15 = .ok (.ireturn, 1) from by decide +kernel) hlocks
def rtJ5_isLatin1_aae02 : Room := { frames := 1, cells := 0, slots := 0, locals := 32 }
set_option maxHeartbeats 1000000 in
theorem tJ5_isLatin1_aae02 {l : Launch} (D : va_G) (cI cJ cD : ClassId) (A : Nat → Prop) (ws : va_W) (i j h d c : Nat) (f : Nat → Int32) (hi : ws[i]? = some (sbB h d (Int32.ofNat c))) (hj : ws[j]? = some (sbY cD d f)) : Met l yJ5_isLatin1_aae02 (Cond.code yJ5_isLatin1_aae02 cJ5_isLatin1_aae02 1 (some .boolean) :: pvTb) rtJ5_isLatin1_aae02 (va_Pc [.ref h] (sbW D cI cJ cD A ws [] [])) (sbPost D A (fun v ws' => v = some (.int 1) ∧ ws' = ws)) 0 0 A := by
  refine Met.ofW (cc := cJ5_isLatin1_aae02) (maxL := 1) (ret := (some .boolean)) (by decide +kernel) rfl ?_
  intro p e s m args below meth cQ s₁ B hml hv
  obtain ⟨rfl, hK, hA, hZ, hQ, hT, hP, hD⟩ := hv
  have hx := B.exec
  have hb := B.bytes
  have hr := B.returns
  have hts0 := atoms_spec (ws := Cond.code yJ5_isLatin1_aae02 cJ5_isLatin1_aae02 1 (some .boolean) :: pvTb) B.pre
  have hts : ∀ w ∈ pvTb, w.before ([.ref h] : List Value).toArray s = true := fun w hw => hts0 w (List.mem_cons_of_mem _ hw)
  have hown : s.vm.findClass RJ5 = some m.cls := findClass_of_methodNamed B.named
  have hlocks := B.notSynchronized
  have hS : va_S A s.heap s.heap [] := va_S.rf
  have hl := lv_entry ([.ref h]) (n := 1) (Nat.le_of_ble_eq_true rfl)
  rw [lg_entry_eq]
  generalize (lg_sl ([.ref h]) ++ List.replicate (1 - (lg_sl ([.ref h])).length) Slot.unset).toArray = ls at hl ⊢
  have hl : lv_has ls 1 [(0, .ref h)] := hl
  refine va_gets hx hb hZ.1 hS hown (hts _ wd_3_66) (fun _ h9 => h9) (show decode cJ5_isLatin1_aae02 0 = .ok (.getstatic 18, 3) from by decide +kernel) ?_
  refine lv_if_eq hx hb (show decode cJ5_isLatin1_aae02 3 = .ok (.ifCond .eq 14, 3) from by decide +kernel) (tgt := 17) rfl (fun h9 => absurd h9 (by decide)) (fun _ => ?_)
  refine lv_aload_n hx hb (show decode cJ5_isLatin1_aae02 6 = .ok (.aload_n 0, 1) from by decide +kernel) rfl (lv_at hl 0 rfl) ?_
  refine va_get (D := D) (ci := 10) (v := .int 0) (C := RJ4) (T := TJ4) (N := 4) hx hb hts wsok_J4 hown hK hP i hi rfl 1 (by decide) (hts _ wd_3_76) (fun _ h9 => h9) rfl (show decode cJ5_isLatin1_aae02 7 = .ok (.getfield 22, 3) from by decide +kernel) ?_
  refine lv_if_ne hx hb (show decode cJ5_isLatin1_aae02 10 = .ok (.ifCond .ne 7, 3) from by decide +kernel) (tgt := 17) rfl (fun h9 => absurd h9 (fun h => h rfl)) (fun _ => ?_)
  refine lv_iconst (v := (1)) hx hb (show decode cJ5_isLatin1_aae02 13 = .ok (.iconst 1, 1) from by decide +kernel) (by decide) ?_
  refine lv_goto hx hb (show decode cJ5_isLatin1_aae02 14 = .ok (.goto 4, 3) from by decide +kernel) (tgt := 18) rfl ?_
  exact W.zret hx hb hr rfl (fun t ht hW => ⟨⟨_, _, rfl, ⟨rfl, rfl⟩, by rw [ht]; exact hP, hD⟩, hS.F ht⟩) hS.2.2 (show decode cJ5_isLatin1_aae02 18 = .ok (.ireturn, 1) from by decide +kernel) hlocks
def rtJ5_getValue_6d5f1 : Room := { frames := 1, cells := 0, slots := 0, locals := 32 }
set_option maxHeartbeats 1000000 in
theorem tJ5_getValue_6d5f1 {l : Launch} (D : va_G) (cI cJ cD : ClassId) (A : Nat → Prop) (ws : va_W) (i j h d c : Nat) (f : Nat → Int32) (hi : ws[i]? = some (sbB h d (Int32.ofNat c))) (hj : ws[j]? = some (sbY cD d f)) : Met l yJ5_getValue_6d5f1 (Cond.code yJ5_getValue_6d5f1 cJ5_getValue_6d5f1 1 (some (.array .byte)) :: pvTb) rtJ5_getValue_6d5f1 (va_Pc [.ref h] (sbW D cI cJ cD A ws [] [])) (sbPost D A (fun v ws' => v = some (.ref d) ∧ ws' = ws)) 0 0 A := by
  refine Met.ofW (cc := cJ5_getValue_6d5f1) (maxL := 1) (ret := (some (.array .byte))) (by decide +kernel) rfl ?_
  intro p e s m args below meth cQ s₁ B hml hv
  obtain ⟨rfl, hK, hA, hZ, hQ, hT, hP, hD⟩ := hv
  have hx := B.exec
  have hb := B.bytes
  have hr := B.returns
  have hts0 := atoms_spec (ws := Cond.code yJ5_getValue_6d5f1 cJ5_getValue_6d5f1 1 (some (.array .byte)) :: pvTb) B.pre
  have hts : ∀ w ∈ pvTb, w.before ([.ref h] : List Value).toArray s = true := fun w hw => hts0 w (List.mem_cons_of_mem _ hw)
  have hown : s.vm.findClass RJ5 = some m.cls := findClass_of_methodNamed B.named
  have hlocks := B.notSynchronized
  have hS : va_S A s.heap s.heap [] := va_S.rf
  have hl := lv_entry ([.ref h]) (n := 1) (Nat.le_of_ble_eq_true rfl)
  rw [lg_entry_eq]
  generalize (lg_sl ([.ref h]) ++ List.replicate (1 - (lg_sl ([.ref h])).length) Slot.unset).toArray = ls at hl ⊢
  have hl : lv_has ls 1 [(0, .ref h)] := hl
  refine lv_aload_n hx hb (show decode cJ5_getValue_6d5f1 0 = .ok (.aload_n 0, 1) from by decide +kernel) rfl (lv_at hl 0 rfl) ?_
  refine va_get (D := D) (ci := 10) (v := .ref d) (C := RJ4) (T := TJ4) (N := 4) hx hb hts wsok_J4 hown hK hP i hi rfl 0 (by decide) (hts _ wd_3_75) (fun _ h9 => h9) rfl (show decode cJ5_getValue_6d5f1 1 = .ok (.getfield 15, 3) from by decide +kernel) ?_
  exact W.aret hx hb hr (Or.inr ⟨_, rfl⟩) (Or.inr ⟨_, rfl⟩) (fun t ht hW => ⟨⟨_, _, rfl, ⟨rfl, rfl⟩, by rw [ht]; exact hP, hD⟩, hS.F ht⟩) hS.2.2 (show decode cJ5_getValue_6d5f1 4 = .ok (.areturn, 1) from by decide +kernel) hlocks
def rtJ5_length_8abf5 : Room := { frames := 1, cells := 0, slots := 0, locals := 32 }
set_option maxHeartbeats 1000000 in
theorem tJ5_length_8abf5 {l : Launch} (D : va_G) (cI cJ cD : ClassId) (A : Nat → Prop) (ws : va_W) (i j h d c : Nat) (f : Nat → Int32) (hi : ws[i]? = some (sbB h d (Int32.ofNat c))) (hj : ws[j]? = some (sbY cD d f)) : Met l yJ5_length_8abf5 (Cond.code yJ5_length_8abf5 cJ5_length_8abf5 1 (some .int) :: pvTb) rtJ5_length_8abf5 (va_Pc [.ref h] (sbW D cI cJ cD A ws [] [])) (sbPost D A (fun v ws' => v = some (.int (Int32.ofNat c)) ∧ ws' = ws)) 0 0 A := by
  refine Met.ofW (cc := cJ5_length_8abf5) (maxL := 1) (ret := (some .int)) (by decide +kernel) rfl ?_
  intro p e s m args below meth cQ s₁ B hml hv
  obtain ⟨rfl, hK, hA, hZ, hQ, hT, hP, hD⟩ := hv
  have hx := B.exec
  have hb := B.bytes
  have hr := B.returns
  have hts0 := atoms_spec (ws := Cond.code yJ5_length_8abf5 cJ5_length_8abf5 1 (some .int) :: pvTb) B.pre
  have hts : ∀ w ∈ pvTb, w.before ([.ref h] : List Value).toArray s = true := fun w hw => hts0 w (List.mem_cons_of_mem _ hw)
  have hown : s.vm.findClass RJ5 = some m.cls := findClass_of_methodNamed B.named
  have hlocks := B.notSynchronized
  have hS : va_S A s.heap s.heap [] := va_S.rf
  have hl := lv_entry ([.ref h]) (n := 1) (Nat.le_of_ble_eq_true rfl)
  rw [lg_entry_eq]
  generalize (lg_sl ([.ref h]) ++ List.replicate (1 - (lg_sl ([.ref h])).length) Slot.unset).toArray = ls at hl ⊢
  have hl : lv_has ls 1 [(0, .ref h)] := hl
  refine lv_aload_n hx hb (show decode cJ5_length_8abf5 0 = .ok (.aload_n 0, 1) from by decide +kernel) rfl (lv_at hl 0 rfl) ?_
  refine va_get (D := D) (ci := 10) (v := .int (Int32.ofNat c)) (C := RJ4) (T := TJ4) (N := 4) hx hb hts wsok_J4 hown hK hP i hi rfl 3 (by decide) (hts _ wd_3_78) (fun _ h9 => h9) rfl (show decode cJ5_length_8abf5 1 = .ok (.getfield 79, 3) from by decide +kernel) ?_
  exact W.iret hx hb hr (fun t ht hW => ⟨⟨_, _, rfl, ⟨rfl, rfl⟩, by rw [ht]; exact hP, hD⟩, hS.F ht⟩) hS.2.2 (show decode cJ5_length_8abf5 4 = .ok (.ireturn, 1) from by decide +kernel) hlocks
def rtJ4_length_8abf5 : Room := { frames := 2, cells := 0, slots := 0, locals := 64 }
set_option maxHeartbeats 1000000 in
theorem tJ4_length_8abf5 {l : Launch} (D : va_G) (cI cJ cD : ClassId) (A : Nat → Prop) (ws : va_W) (i j h d c : Nat) (f : Nat → Int32) (hi : ws[i]? = some (sbB h d (Int32.ofNat c))) (hj : ws[j]? = some (sbY cD d f)) : Met l yJ4_length_8abf5 (Cond.code yJ4_length_8abf5 cJ4_length_8abf5 1 (some .int) :: pvTb) rtJ4_length_8abf5 (va_Pc [.ref h] (sbW D cI cJ cD A ws [] [])) (sbPost D A (fun v ws' => v = some (.int (Int32.ofNat c)) ∧ ws' = ws)) 0 0 A := by
  refine Met.ofW (cc := cJ4_length_8abf5) (maxL := 1) (ret := (some .int)) (by decide +kernel) rfl ?_
  intro p e s m args below meth cQ s₁ B hml hv
  obtain ⟨rfl, hK, hA, hZ, hQ, hT, hP, hD⟩ := hv
  have hx := B.exec
  have hb := B.bytes
  have hr := B.returns
  have hts0 := atoms_spec (ws := Cond.code yJ4_length_8abf5 cJ4_length_8abf5 1 (some .int) :: pvTb) B.pre
  have hts : ∀ w ∈ pvTb, w.before ([.ref h] : List Value).toArray s = true := fun w hw => hts0 w (List.mem_cons_of_mem _ hw)
  have hown : s.vm.findClass RJ4 = some m.cls := findClass_of_methodNamed B.named
  have hlocks := B.notSynchronized
  have hS : va_S A s.heap s.heap [] := va_S.rf
  have hl := lv_entry ([.ref h]) (n := 1) (Nat.le_of_ble_eq_true rfl)
  rw [lg_entry_eq]
  generalize (lg_sl ([.ref h]) ++ List.replicate (1 - (lg_sl ([.ref h])).length) Slot.unset).toArray = ls at hl ⊢
  have hl : lv_has ls 1 [(0, .ref h)] := hl
  refine lv_aload_n hx hb (show decode cJ4_length_8abf5 0 = .ok (.aload_n 0, 1) from by decide +kernel) rfl (lv_at hl 0 rfl) ?_
  refine sb_go (va_runSU (C := RJ4) (hK.1 10 _ rfl).2 (As := []) (rest := []) ⟨hx, hb, hml, hown, hts⟩ (tJ5_length_8abf5 D cI cJ cD A ws i j h d c f hi hj) (va_cwSU 0 hts (sbGood (List.forall_mem_cons.mpr ⟨wd_3_239, List.forall_mem_cons.mpr ⟨wd_3_235, List.forall_mem_cons.mpr ⟨wd_3_87, List.forall_mem_cons.mpr ⟨wd_3_234, List.forall_mem_cons.mpr ⟨wd_1_16, fun _ h => absurd h List.not_mem_nil⟩⟩⟩⟩⟩) wd_4_0) rfl rfl rfl ⟨by decide, by decide +kernel⟩ ⟨Nat.le_of_ble_eq_true rfl, Nat.le_of_ble_eq_true rfl⟩) ⟨sbW.blind, (va_recv hK hP (ci := 10) rfl hi), fun U hU hW => ⟨rfl, sbW.at hK hZ hS (fun _ h => h) (fun q h => hA q (Nat.le_trans hS.1 h)) (fun _ h => absurd h List.not_mem_nil) (fun _ h => absurd h List.not_mem_nil) hP hD hU hW⟩⟩ rfl rfl hl.1 rfl (lv_room (Nat.le_of_ble_eq_true rfl)) (show decode cJ4_length_8abf5 1 = .ok (.invokespecial 343, 3) from by decide +kernel) ⟨(Nat.le_of_ble_eq_true rfl), (Nat.le_of_ble_eq_true rfl)⟩) hS (fun _ h => h) (fun v9 w9 H1 locs hp hP hD hS hz9 hk9 => ?_)
  obtain ⟨rfl, e9⟩ := hp
  have e9 := e9.symm
  subst e9
  refine W.eq (g2 := F0 m 4 ls [.int (Int32.ofNat c)]) rfl ?_
  exact W.iret hx hb hr (fun t ht hW => ⟨⟨_, _, rfl, ⟨rfl, rfl⟩, by rw [ht]; exact hP, hD⟩, hS.F ht⟩) hS.2.2 (show decode cJ4_length_8abf5 4 = .ok (.ireturn, 1) from by decide +kernel) hlocks
def rtJ5_ensureCapacityInternal_d00df : Room := { frames := 1, cells := 0, slots := 0, locals := 32 }
set_option maxHeartbeats 1000000 in
theorem tJ5_ensureCapacityInternal_d00df {l : Launch} (D : va_G) (cI cJ cD : ClassId) (A : Nat → Prop) (ws : va_W) (i j h d c : Nat) (f : Nat → Int32) (q : Nat) (hi : ws[i]? = some (sbB h d (Int32.ofNat c))) (hj : ws[j]? = some (sbY cD d f)) (hq9 : q ≤ 16) : Met l yJ5_ensureCapacityInternal_d00df (Cond.code yJ5_ensureCapacityInternal_d00df cJ5_ensureCapacityInternal_d00df 3 none :: pvTb) rtJ5_ensureCapacityInternal_d00df (va_Pc [.ref h, .int (Int32.ofNat q)] (sbW D cI cJ cD A ws [] [])) (sbPost D A (fun v ws' => v = none ∧ ws' = ws)) 0 0 A := by
  refine Met.ofW (cc := cJ5_ensureCapacityInternal_d00df) (maxL := 3) (ret := none) (by decide +kernel) rfl ?_
  intro p e s m args below meth cQ s₁ B hml hv
  obtain ⟨rfl, hK, hA, hZ, hQ, hT, hP, hD⟩ := hv
  have hx := B.exec
  have hb := B.bytes
  have hr := B.returns
  have hts0 := atoms_spec (ws := Cond.code yJ5_ensureCapacityInternal_d00df cJ5_ensureCapacityInternal_d00df 3 none :: pvTb) B.pre
  have hts : ∀ w ∈ pvTb, w.before ([.ref h, .int (Int32.ofNat q)] : List Value).toArray s = true := fun w hw => hts0 w (List.mem_cons_of_mem _ hw)
  have hown : s.vm.findClass RJ5 = some m.cls := findClass_of_methodNamed B.named
  have hlocks := B.notSynchronized
  have hS : va_S A s.heap s.heap [] := va_S.rf
  have hl := lv_entry ([.ref h, .int (Int32.ofNat q)]) (n := 3) (Nat.le_of_ble_eq_true rfl)
  rw [lg_entry_eq]
  generalize (lg_sl ([.ref h, .int (Int32.ofNat q)]) ++ List.replicate (3 - (lg_sl ([.ref h, .int (Int32.ofNat q)])).length) Slot.unset).toArray = ls at hl ⊢
  have hl : lv_has ls 3 [(0, .ref h), (1, .int (Int32.ofNat q))] := hl
  refine lv_aload_n hx hb (show decode cJ5_ensureCapacityInternal_d00df 0 = .ok (.aload_n 0, 1) from by decide +kernel) rfl (lv_at hl 0 rfl) ?_
  refine va_get (D := D) (ci := 10) (v := .ref d) (C := RJ4) (T := TJ4) (N := 4) hx hb hts wsok_J4 hown hK hP i hi rfl 0 (by decide) (hts _ wd_3_75) (fun _ h9 => h9) rfl (show decode cJ5_ensureCapacityInternal_d00df 1 = .ok (.getfield 15, 3) from by decide +kernel) ?_
  refine va_alen hx hb hK hP j 2 hj rfl (v := 16) rfl (show decode cJ5_ensureCapacityInternal_d00df 4 = .ok (.arraylength, 1) from by decide +kernel) ?_
  refine lv_aload_n hx hb (show decode cJ5_ensureCapacityInternal_d00df 5 = .ok (.aload_n 0, 1) from by decide +kernel) rfl (lv_at hl 0 rfl) ?_
  refine va_get (D := D) (ci := 10) (v := .int 0) (C := RJ4) (T := TJ4) (N := 4) hx hb hts wsok_J4 hown hK hP i hi rfl 1 (by decide) (hts _ wd_3_76) (fun _ h9 => h9) rfl (show decode cJ5_ensureCapacityInternal_d00df 6 = .ok (.getfield 22, 3) from by decide +kernel) ?_
  refine lv_ishr hx hb (show decode cJ5_ensureCapacityInternal_d00df 9 = .ok (.ishr, 1) from by decide +kernel) ?_
  refine lv_topi fun y9 hy9 => ?_
  obtain rfl : y9 = 16 := hy9.trans (sb_sr0 _)
  refine lv_istore_n (lv' := [(2, .int 16), (0, .ref h), (1, .int (Int32.ofNat q))]) hx hb (show decode cJ5_ensureCapacityInternal_d00df 10 = .ok (.istore_n 2, 1) from by decide +kernel) rfl hl (by decide) rfl (fun ls hl => ?_)
  refine lv_iload_n hx hb (show decode cJ5_ensureCapacityInternal_d00df 11 = .ok (.iload_n 1, 1) from by decide +kernel) rfl (lv_at hl 2 rfl) ?_
  refine lv_iload_n hx hb (show decode cJ5_ensureCapacityInternal_d00df 12 = .ok (.iload_n 2, 1) from by decide +kernel) rfl (lv_at hl 0 rfl) ?_
  refine lv_isub hx hb (show decode cJ5_ensureCapacityInternal_d00df 13 = .ok (.isub, 1) from by decide +kernel) ?_
  refine lv_topi fun y9 hy9 => ?_
  obtain rfl : y9 = (Int32.ofNat q - 16) := hy9.trans rfl
  refine lv_if_le hx hb (show decode cJ5_ensureCapacityInternal_d00df 14 = .ok (.ifCond .le 24, 3) from by decide +kernel) (tgt := 38) rfl (fun _ => ?_) (fun h9 => absurd (sb_c16 q (by omega)) h9)
  exact W.vret hx hb hr (fun t ht hW => ⟨⟨_, _, rfl, ⟨rfl, rfl⟩, by rw [ht]; exact hP, hD⟩, hS.F ht⟩) hS.2.2 (show decode cJ5_ensureCapacityInternal_d00df 38 = .ok (.return_, 1) from by decide +kernel) hlocks
def rtJ5_inflateIfNeededFor_a7421 : Room := { frames := 2, cells := 0, slots := 0, locals := 64 }
set_option maxHeartbeats 1000000 in
theorem tJ5_inflateIfNeededFor_a7421 {l : Launch} (D : va_G) (cI cJ cD : ClassId) (A : Nat → Prop) (ws : va_W) (a b n : Nat) (t : Nat → Nat) (i j h d c : Nat) (f : Nat → Int32) (hi : ws[i]? = some (sbB h d (Int32.ofNat c))) (hj : ws[j]? = some (sbY cD d f)) : Met l yJ5_inflateIfNeededFor_a7421 (Cond.code yJ5_inflateIfNeededFor_a7421 cJ5_inflateIfNeededFor_a7421 2 none :: pvTb) rtJ5_inflateIfNeededFor_a7421 (va_Pc [.ref h, .ref a] (sbW D cI cJ cD A ws [(a, b, n, (fun j => Int32.ofNat (t j)))] [])) (sbPost D A (fun v ws' => v = none ∧ ws' = ws)) 0 0 A := by
  refine Met.ofW (cc := cJ5_inflateIfNeededFor_a7421) (maxL := 2) (ret := none) (by decide +kernel) rfl ?_
  intro p e s m args below meth cQ s₁ B hml hv
  obtain ⟨rfl, hK, hA, hZ, hQ, hT, hP, hD⟩ := hv
  have hx := B.exec
  have hb := B.bytes
  have hr := B.returns
  have hts0 := atoms_spec (ws := Cond.code yJ5_inflateIfNeededFor_a7421 cJ5_inflateIfNeededFor_a7421 2 none :: pvTb) B.pre
  have hts : ∀ w ∈ pvTb, w.before ([.ref h, .ref a] : List Value).toArray s = true := fun w hw => hts0 w (List.mem_cons_of_mem _ hw)
  have hown : s.vm.findClass RJ5 = some m.cls := findClass_of_methodNamed B.named
  have hlocks := B.notSynchronized
  have hS : va_S A s.heap s.heap [] := va_S.rf
  have hl := lv_entry ([.ref h, .ref a]) (n := 2) (Nat.le_of_ble_eq_true rfl)
  rw [lg_entry_eq]
  generalize (lg_sl ([.ref h, .ref a]) ++ List.replicate (2 - (lg_sl ([.ref h, .ref a])).length) Slot.unset).toArray = ls at hl ⊢
  have hl : lv_has ls 2 [(0, .ref h), (1, .ref a)] := hl
  have q0 : sbQ A a b n (fun j => Int32.ofNat (t j)) s s.heap := hQ _ List.mem_cons_self
  have t0 := q0.2.2.2
  refine va_gets hx hb hZ.1 hS hown (hts _ wd_3_66) (fun _ h9 => h9) (show decode cJ5_inflateIfNeededFor_a7421 0 = .ok (.getstatic 18, 3) from by decide +kernel) ?_
  refine lv_if_eq hx hb (show decode cJ5_inflateIfNeededFor_a7421 3 = .ok (.ifCond .eq 18, 3) from by decide +kernel) (tgt := 21) rfl (fun h9 => absurd h9 (by decide)) (fun _ => ?_)
  refine lv_aload_n hx hb (show decode cJ5_inflateIfNeededFor_a7421 6 = .ok (.aload_n 0, 1) from by decide +kernel) rfl (lv_at hl 0 rfl) ?_
  refine va_get (D := D) (ci := 10) (v := .int 0) (C := RJ4) (T := TJ4) (N := 4) hx hb hts wsok_J4 hown hK hP i hi rfl 1 (by decide) (hts _ wd_3_76) (fun _ h9 => h9) rfl (show decode cJ5_inflateIfNeededFor_a7421 7 = .ok (.getfield 22, 3) from by decide +kernel) ?_
  refine lv_aload_n hx hb (show decode cJ5_inflateIfNeededFor_a7421 10 = .ok (.aload_n 1, 1) from by decide +kernel) rfl (lv_at hl 1 rfl) ?_
  have q0h := q0.kept hS.2.1
  refine sb_go (va_runV (C := "java/lang/String") (As := []) (rest := [.int 0]) ⟨hx, hb, hml, hown, hts⟩ (tJ0_coder_7d493 D cI cJ cD A ws a b n t) ⟨callB_of 0 hts (pvGood_c pvTb_g wd_3_171) rfl rfl rfl (hts _ wd_1_18) (hts _ wd_3_181) ⟨by decide, by decide, by decide +kernel⟩ ⟨Nat.le_of_ble_eq_true rfl, Nat.le_of_ble_eq_true rfl⟩, hts _ wd_3_169, hts _ wd_3_170⟩ ⟨sbW.blind, q0h.recv, fun U hU hW => ⟨rfl, sbW.at hK hZ hS (fun _ h => h) (fun q h => hA q (Nat.le_trans hS.1 h)) (sbQ_ hS hQ) (fun _ h => absurd h List.not_mem_nil) hP hD hU hW⟩⟩ rfl rfl hl.1 rfl (lv_room (Nat.le_of_ble_eq_true rfl)) (show decode cJ5_inflateIfNeededFor_a7421 11 = .ok (.invokevirtual 40, 3) from by decide +kernel) ⟨(Nat.le_of_ble_eq_true rfl), (Nat.le_of_ble_eq_true rfl)⟩) hS (fun _ h => h) (fun v9 w9 H1 locs hp hP hD hS hz9 hk9 => ?_)
  obtain ⟨rfl, e9⟩ := hp
  have e9 := e9.symm
  subst e9
  refine W.eq (g2 := F0 m 14 ls [.int 0, .int 0]) rfl ?_
  refine lv_icmp_eq hx hb (show decode cJ5_inflateIfNeededFor_a7421 14 = .ok (.if_icmp .eq 7, 3) from by decide +kernel) (tgt := 21) rfl (fun _ => ?_) (fun h9 => absurd rfl h9)
  exact W.vret hx hb hr (fun t ht hW => ⟨⟨_, _, rfl, ⟨rfl, rfl⟩, by rw [ht]; exact hP, hD⟩, hS.F ht⟩) hS.2.2 (show decode cJ5_inflateIfNeededFor_a7421 21 = .ok (.return_, 1) from by decide +kernel) hlocks
def rtJ0_getBytes_840e7 : Room := { frames := 2, cells := 0, slots := 0, locals := 64 }
set_option maxHeartbeats 1000000 in
theorem tJ0_getBytes_840e7 {l : Launch} (D : va_G) (cI cJ cD : ClassId) (A : Nat → Prop) (ws : va_W) (a b n : Nat) (t : Nat → Nat) (j d c : Nat) (f : Nat → Int32) (hj : ws[j]? = some (sbY cD d f)) (hc : c + n ≤ 16) (ht : ∀ q, q < n → t q < 128) : Met l yJ0_getBytes_840e7 (Cond.code yJ0_getBytes_840e7 cJ0_getBytes_840e7 4 none :: pvTb) rtJ0_getBytes_840e7 (va_Pc [.ref a, .ref d, .int (Int32.ofNat c), .int 0] (sbW D cI cJ cD A ws [(a, b, n, (fun j => Int32.ofNat (t j)))] [])) (sbPost D A (fun v ws' => v = none ∧ ws' = ws.set j (sbY cD d (va_cpy (fun j => Int32.ofNat (t j)) f 0 c n)))) 0 0 A := by
  refine Met.ofW (cc := cJ0_getBytes_840e7) (maxL := 4) (ret := none) (by decide +kernel) rfl ?_
  intro p e s m args below meth cQ s₁ B hml hv
  obtain ⟨rfl, hK, hA, hZ, hQ, hT, hP, hD⟩ := hv
  have hx := B.exec
  have hb := B.bytes
  have hr := B.returns
  have hts0 := atoms_spec (ws := Cond.code yJ0_getBytes_840e7 cJ0_getBytes_840e7 4 none :: pvTb) B.pre
  have hts : ∀ w ∈ pvTb, w.before ([.ref a, .ref d, .int (Int32.ofNat c), .int 0] : List Value).toArray s = true := fun w hw => hts0 w (List.mem_cons_of_mem _ hw)
  have hown : s.vm.findClass RJ0 = some m.cls := findClass_of_methodNamed B.named
  have hlocks := B.notSynchronized
  have hS : va_S A s.heap s.heap [] := va_S.rf
  have hl := lv_entry ([.ref a, .ref d, .int (Int32.ofNat c), .int 0]) (n := 4) (Nat.le_of_ble_eq_true rfl)
  rw [lg_entry_eq]
  generalize (lg_sl ([.ref a, .ref d, .int (Int32.ofNat c), .int 0]) ++ List.replicate (4 - (lg_sl ([.ref a, .ref d, .int (Int32.ofNat c), .int 0])).length) Slot.unset).toArray = ls at hl ⊢
  have hl : lv_has ls 4 [(0, .ref a), (1, .ref d), (2, .int (Int32.ofNat c)), (3, .int 0)] := hl
  have q0 : sbQ A a b n (fun j => Int32.ofNat (t j)) s s.heap := hQ _ List.mem_cons_self
  have t0 := q0.2.2.2
  refine lv_aload_n hx hb (show decode cJ0_getBytes_840e7 0 = .ok (.aload_n 0, 1) from by decide +kernel) rfl (lv_at hl 0 rfl) ?_
  have q0h := q0.kept hS.2.1
  refine sb_go (va_runV (C := "java/lang/String") (As := []) (rest := []) ⟨hx, hb, hml, hown, hts⟩ (tJ0_coder_7d493 D cI cJ cD A ws a b n t) ⟨callB_of 0 hts (pvGood_c pvTb_g wd_3_171) rfl rfl rfl (hts _ wd_1_18) (hts _ wd_3_168) ⟨by decide, by decide, by decide +kernel⟩ ⟨Nat.le_of_ble_eq_true rfl, Nat.le_of_ble_eq_true rfl⟩, hts _ wd_3_169, hts _ wd_3_170⟩ ⟨sbW.blind, q0h.recv, fun U hU hW => ⟨rfl, sbW.at hK hZ hS (fun _ h => h) (fun q h => hA q (Nat.le_trans hS.1 h)) (sbQ_ hS hQ) (fun _ h => absurd h List.not_mem_nil) hP hD hU hW⟩⟩ rfl rfl hl.1 rfl (lv_room (Nat.le_of_ble_eq_true rfl)) (show decode cJ0_getBytes_840e7 1 = .ok (.invokevirtual 335, 3) from by decide +kernel) ⟨(Nat.le_of_ble_eq_true rfl), (Nat.le_of_ble_eq_true rfl)⟩) hS (fun _ h => h) (fun v9 w9 H1 locs hp hP hD hS hz9 hk9 => ?_)
  obtain ⟨rfl, e9⟩ := hp
  have e9 := e9.symm
  subst e9
  refine W.eq (g2 := F0 m 4 ls [.int 0]) rfl ?_
  refine lv_iload_n hx hb (show decode cJ0_getBytes_840e7 4 = .ok (.iload_n 3, 1) from by decide +kernel) rfl (lv_at hl 3 rfl) ?_
  refine lv_icmp_ne hx hb (show decode cJ0_getBytes_840e7 5 = .ok (.if_icmp .ne 23, 3) from by decide +kernel) (tgt := 28) rfl (fun h9 => absurd h9 (fun h => h rfl)) (fun _ => ?_)
  refine lv_aload_n hx hb (show decode cJ0_getBytes_840e7 8 = .ok (.aload_n 0, 1) from by decide +kernel) rfl (lv_at hl 0 rfl) ?_
  refine vk_getf hx hb q0.2.2.1 hS hown (hts _ wd_4_24) (fun _ h9 => h9) (show decode cJ0_getBytes_840e7 9 = .ok (.getfield 9, 3) from by decide +kernel) ?_
  refine lv_iconst (v := (0)) hx hb (show decode cJ0_getBytes_840e7 12 = .ok (.iconst 0, 1) from by decide +kernel) (by decide) ?_
  refine lv_aload_n hx hb (show decode cJ0_getBytes_840e7 13 = .ok (.aload_n 1, 1) from by decide +kernel) rfl (lv_at hl 1 rfl) ?_
  refine lv_iload_n hx hb (show decode cJ0_getBytes_840e7 14 = .ok (.iload_n 2, 1) from by decide +kernel) rfl (lv_at hl 2 rfl) ?_
  refine lv_iload_n hx hb (show decode cJ0_getBytes_840e7 15 = .ok (.iload_n 3, 1) from by decide +kernel) rfl (lv_at hl 3 rfl) ?_
  refine lv_ishl hx hb (show decode cJ0_getBytes_840e7 16 = .ok (.ishl, 1) from by decide +kernel) ?_
  refine lv_topi fun y9 hy9 => ?_
  obtain rfl : y9 = (Int32.ofNat c) := hy9.trans (sb_sl0 _)
  refine lv_aload_n hx hb (show decode cJ0_getBytes_840e7 17 = .ok (.aload_n 0, 1) from by decide +kernel) rfl (lv_at hl 0 rfl) ?_
  refine vk_getf hx hb q0.2.2.1 hS hown (hts _ wd_4_24) (fun _ h9 => h9) (show decode cJ0_getBytes_840e7 18 = .ok (.getfield 9, 3) from by decide +kernel) ?_
  refine va_tlen hx hb t0 hS (v := (Int32.ofNat n)) rfl (show decode cJ0_getBytes_840e7 21 = .ok (.arraylength, 1) from by decide +kernel) ?_
  refine vk_copyt hx hb (by rw [hml]; exact hl.1.symm) hown (hts _ wd_3_205) (hts _ wd_3_37) (hts _ wd_3_36) (hts _ wd_1_14) hK hP hD hS t0 j 2 hj rfl (by decide) (sb_ng (by omega)) (sb_ng (by omega)) (by rw [sb_cn (by omega)]; show 0 + n ≤ n; omega) (by rw [sb_cn (by omega), sb_cn (by omega)]; exact hc) (fun q hq => (sb_ch _ (ht _ (by rw [sb_cn (by omega)] at hq; show 0 + q < n; omega))).2.2.2.1) (Nat.le_of_ble_eq_true rfl) (by show _ ≤ _; exact Nat.le_of_ble_eq_true rfl) (show decode cJ0_getBytes_840e7 22 = .ok (.invokestatic 212, 3) from by decide +kernel) (fun H locs hP hD hS => ?_)
  rw [sb_cn (by omega), sb_cn (by omega)] at hP hD
  refine lv_goto hx hb (show decode cJ0_getBytes_840e7 25 = .ok (.goto 18, 3) from by decide +kernel) (tgt := 43) rfl ?_
  exact W.vret hx hb hr (fun t ht hW => ⟨⟨_, _, rfl, ⟨rfl, rfl⟩, by rw [ht]; exact hP, hD⟩, hS.F ht⟩) hS.2.2 (show decode cJ0_getBytes_840e7 43 = .ok (.return_, 1) from by decide +kernel) hlocks
def rtJ5_putStringAt_47b60 : Room := { frames := 3, cells := 0, slots := 0, locals := 96 }
set_option maxHeartbeats 1000000 in
theorem tJ5_putStringAt_47b60 {l : Launch} (D : va_G) (cI cJ cD : ClassId) (A : Nat → Prop) (ws : va_W) (a b n : Nat) (t : Nat → Nat) (i j h d c : Nat) (f : Nat → Int32) (hi : ws[i]? = some (sbB h d (Int32.ofNat c))) (hj : ws[j]? = some (sbY cD d f)) (hc : c + n ≤ 16) (ht : ∀ q, q < n → t q < 128) : Met l yJ5_putStringAt_47b60 (Cond.code yJ5_putStringAt_47b60 cJ5_putStringAt_47b60 3 none :: pvTb) rtJ5_putStringAt_47b60 (va_Pc [.ref h, .int (Int32.ofNat c), .ref a] (sbW D cI cJ cD A ws [(a, b, n, (fun j => Int32.ofNat (t j)))] [])) (sbPost D A (fun v ws' => v = none ∧ ws' = (ws.set j (sbY cD d (va_cpy (fun j => Int32.ofNat (t j)) f 0 c n))))) 0 0 A := by
  refine Met.ofW (cc := cJ5_putStringAt_47b60) (maxL := 3) (ret := none) (by decide +kernel) rfl ?_
  intro p e s m args below meth cQ s₁ B hml hv
  obtain ⟨rfl, hK, hA, hZ, hQ, hT, hP, hD⟩ := hv
  have hx := B.exec
  have hb := B.bytes
  have hr := B.returns
  have hts0 := atoms_spec (ws := Cond.code yJ5_putStringAt_47b60 cJ5_putStringAt_47b60 3 none :: pvTb) B.pre
  have hts : ∀ w ∈ pvTb, w.before ([.ref h, .int (Int32.ofNat c), .ref a] : List Value).toArray s = true := fun w hw => hts0 w (List.mem_cons_of_mem _ hw)
  have hown : s.vm.findClass RJ5 = some m.cls := findClass_of_methodNamed B.named
  have hlocks := B.notSynchronized
  have hS : va_S A s.heap s.heap [] := va_S.rf
  have hl := lv_entry ([.ref h, .int (Int32.ofNat c), .ref a]) (n := 3) (Nat.le_of_ble_eq_true rfl)
  rw [lg_entry_eq]
  generalize (lg_sl ([.ref h, .int (Int32.ofNat c), .ref a]) ++ List.replicate (3 - (lg_sl ([.ref h, .int (Int32.ofNat c), .ref a])).length) Slot.unset).toArray = ls at hl ⊢
  have hl : lv_has ls 3 [(0, .ref h), (1, .int (Int32.ofNat c)), (2, .ref a)] := hl
  have q0 : sbQ A a b n (fun j => Int32.ofNat (t j)) s s.heap := hQ _ List.mem_cons_self
  have t0 := q0.2.2.2
  refine lv_aload_n hx hb (show decode cJ5_putStringAt_47b60 0 = .ok (.aload_n 0, 1) from by decide +kernel) rfl (lv_at hl 0 rfl) ?_
  refine lv_aload_n hx hb (show decode cJ5_putStringAt_47b60 1 = .ok (.aload_n 2, 1) from by decide +kernel) rfl (lv_at hl 2 rfl) ?_
  refine sb_go (va_runU (C := "java/lang/StringBuilder") (owner := "java/lang/AbstractStringBuilder") (As := [.ref a]) (rest := []) ⟨hx, hb, hml, hown, hts⟩ (tJ5_inflateIfNeededFor_a7421 D cI cJ cD A ws a b n t i j h d c f hi hj) (va_cwU 1 hts (sbGood (List.forall_mem_cons.mpr ⟨wd_3_177, List.forall_mem_cons.mpr ⟨wd_5_175, List.forall_mem_cons.mpr ⟨sbs_inflateIfNeededFor, List.forall_mem_cons.mpr ⟨wd_3_179, List.forall_mem_cons.mpr ⟨wd_1_16, fun _ h => absurd h List.not_mem_nil⟩⟩⟩⟩⟩) wd_3_180) rfl rfl rfl rfl ⟨by decide, by decide, by decide +kernel⟩ ⟨Nat.le_of_ble_eq_true rfl, Nat.le_of_ble_eq_true rfl⟩) ⟨sbW.blind, (va_recv hK hP (ci := 10) rfl hi), fun U hU hW => ⟨rfl, sbW.at hK hZ hS (fun _ h => h) (fun q h => hA q (Nat.le_trans hS.1 h)) (sbQ_ hS hQ) (fun _ h => absurd h List.not_mem_nil) hP hD hU hW⟩⟩ rfl rfl hl.1 rfl (lv_room (Nat.le_of_ble_eq_true rfl)) (show decode cJ5_putStringAt_47b60 2 = .ok (.invokevirtual 397, 3) from by decide +kernel) ⟨(Nat.le_of_ble_eq_true rfl), (Nat.le_of_ble_eq_true rfl)⟩) hS (fun _ h => h) (fun v9 w9 H1 locs hp hP hD hS hz9 hk9 => ?_)
  obtain ⟨rfl, e9⟩ := hp
  have e9 := e9.symm
  subst e9
  refine W.eq (g2 := F0 m 5 ls []) rfl ?_
  refine lv_aload_n hx hb (show decode cJ5_putStringAt_47b60 5 = .ok (.aload_n 2, 1) from by decide +kernel) rfl (lv_at hl 2 rfl) ?_
  refine lv_aload_n hx hb (show decode cJ5_putStringAt_47b60 6 = .ok (.aload_n 0, 1) from by decide +kernel) rfl (lv_at hl 0 rfl) ?_
  refine va_get (D := D) (ci := 10) (v := .ref d) (C := RJ4) (T := TJ4) (N := 4) hx hb hts wsok_J4 hown hK hP i hi rfl 0 (by decide) (hts _ wd_3_75) (fun _ h9 => h9) rfl (show decode cJ5_putStringAt_47b60 7 = .ok (.getfield 15, 3) from by decide +kernel) ?_
  refine lv_iload_n hx hb (show decode cJ5_putStringAt_47b60 10 = .ok (.iload_n 1, 1) from by decide +kernel) rfl (lv_at hl 1 rfl) ?_
  refine lv_aload_n hx hb (show decode cJ5_putStringAt_47b60 11 = .ok (.aload_n 0, 1) from by decide +kernel) rfl (lv_at hl 0 rfl) ?_
  refine va_get (D := D) (ci := 10) (v := .int 0) (C := RJ4) (T := TJ4) (N := 4) hx hb hts wsok_J4 hown hK hP i hi rfl 1 (by decide) (hts _ wd_3_76) (fun _ h9 => h9) rfl (show decode cJ5_putStringAt_47b60 12 = .ok (.getfield 22, 3) from by decide +kernel) ?_
  have q0h := q0.kept hS.2.1
  refine sb_go (va_runV (C := "java/lang/String") (As := [.ref d, .int (Int32.ofNat c), .int 0]) (rest := []) ⟨hx, hb, hml, hown, hts⟩ (tJ0_getBytes_840e7 D cI cJ cD A ws a b n t j d c f hj hc ht) ⟨callB_of 3 hts (pvGood_c pvTb_g wd_3_204) rfl rfl rfl (hts _ wd_1_18) (hts _ wd_3_201) ⟨by decide, by decide, by decide +kernel⟩ ⟨Nat.le_of_ble_eq_true rfl, Nat.le_of_ble_eq_true rfl⟩, hts _ wd_3_202, hts _ wd_3_203⟩ ⟨sbW.blind, q0h.recv, fun U hU hW => ⟨rfl, sbW.at hK hZ hS (fun _ h => h) (fun q h => hA q (Nat.le_trans hS.1 h)) (sbQ_ hS hQ) (fun _ h => absurd h List.not_mem_nil) hP hD hU hW⟩⟩ rfl rfl hl.1 rfl (lv_room (Nat.le_of_ble_eq_true rfl)) (show decode cJ5_putStringAt_47b60 15 = .ok (.invokevirtual 399, 3) from by decide +kernel) ⟨(Nat.le_of_ble_eq_true rfl), (Nat.le_of_ble_eq_true rfl)⟩) hS (fun _ h => h) (fun v9 w9 H1 locs hp hP hD hS hz9 hk9 => ?_)
  obtain ⟨rfl, e9⟩ := hp
  have e9 := e9.symm
  subst e9
  refine W.eq (g2 := F0 m 18 ls []) rfl ?_
  exact W.vret hx hb hr (fun t ht hW => ⟨⟨_, _, rfl, ⟨rfl, rfl⟩, by rw [ht]; exact hP, hD⟩, hS.F ht⟩) hS.2.2 (show decode cJ5_putStringAt_47b60 18 = .ok (.return_, 1) from by decide +kernel) hlocks
def rtJ5_append_cf1ce : Room := { frames := 4, cells := 0, slots := 0, locals := 128 }
set_option maxHeartbeats 1000000 in
theorem tJ5_append_cf1ce {l : Launch} (D : va_G) (cI cJ cD : ClassId) (A : Nat → Prop) (ws : va_W) (a b n : Nat) (t : Nat → Nat) (i j h d c : Nat) (f : Nat → Int32) (hi : ws[i]? = some (sbB h d (Int32.ofNat c))) (hj : ws[j]? = some (sbY cD d f)) (hc : c + n ≤ 16) (ht : ∀ q, q < n → t q < 128) : Met l yJ5_append_cf1ce (Cond.code yJ5_append_cf1ce cJ5_append_cf1ce 3 (some (.object "java/lang/AbstractStringBuilder")) :: pvTb) rtJ5_append_cf1ce (va_Pc [.ref h, .ref a] (sbW D cI cJ cD A ws [(a, b, n, (fun j => Int32.ofNat (t j)))] [])) (sbPost D A (fun v ws' => v = some (.ref h) ∧ ws' = ((ws.set j (sbY cD d (va_cpy (fun j => Int32.ofNat (t j)) f 0 c n))).set i (sbB h d (Int32.ofNat (c + n)))))) 0 0 A := by
  refine Met.ofW (cc := cJ5_append_cf1ce) (maxL := 3) (ret := (some (.object "java/lang/AbstractStringBuilder"))) (by decide +kernel) rfl ?_
  intro p e s m args below meth cQ s₁ B hml hv
  obtain ⟨rfl, hK, hA, hZ, hQ, hT, hP, hD⟩ := hv
  have hx := B.exec
  have hb := B.bytes
  have hr := B.returns
  have hts0 := atoms_spec (ws := Cond.code yJ5_append_cf1ce cJ5_append_cf1ce 3 (some (.object "java/lang/AbstractStringBuilder")) :: pvTb) B.pre
  have hts : ∀ w ∈ pvTb, w.before ([.ref h, .ref a] : List Value).toArray s = true := fun w hw => hts0 w (List.mem_cons_of_mem _ hw)
  have hown : s.vm.findClass RJ5 = some m.cls := findClass_of_methodNamed B.named
  have hlocks := B.notSynchronized
  have hS : va_S A s.heap s.heap [] := va_S.rf
  have hl := lv_entry ([.ref h, .ref a]) (n := 3) (Nat.le_of_ble_eq_true rfl)
  rw [lg_entry_eq]
  generalize (lg_sl ([.ref h, .ref a]) ++ List.replicate (3 - (lg_sl ([.ref h, .ref a])).length) Slot.unset).toArray = ls at hl ⊢
  have hl : lv_has ls 3 [(0, .ref h), (1, .ref a)] := hl
  have q0 : sbQ A a b n (fun j => Int32.ofNat (t j)) s s.heap := hQ _ List.mem_cons_self
  have t0 := q0.2.2.2
  have hne := sb_ne hi hj
  refine lv_aload_n hx hb (show decode cJ5_append_cf1ce 0 = .ok (.aload_n 1, 1) from by decide +kernel) rfl (lv_at hl 1 rfl) ?_
  refine lv_ifnonnull hx hb (show decode cJ5_append_cf1ce 1 = .ok (.ifnonnull 8, 3) from by decide +kernel) (tgt := 9) rfl ?_
  refine lv_aload_n hx hb (show decode cJ5_append_cf1ce 9 = .ok (.aload_n 1, 1) from by decide +kernel) rfl (lv_at hl 1 rfl) ?_
  have q0h := q0.kept hS.2.1
  refine sb_go (va_runV (C := "java/lang/String") (As := []) (rest := []) ⟨hx, hb, hml, hown, hts⟩ (tJ0_length_8abf5 D cI cJ cD A ws a b n t) ⟨callB_of 0 hts (pvGood_c pvTb_g wd_3_167) rfl rfl rfl (hts _ wd_1_18) (hts _ wd_3_164) ⟨by decide, by decide, by decide +kernel⟩ ⟨Nat.le_of_ble_eq_true rfl, Nat.le_of_ble_eq_true rfl⟩, hts _ wd_3_165, hts _ wd_3_166⟩ ⟨sbW.blind, q0h.recv, fun U hU hW => ⟨rfl, sbW.at hK hZ hS (fun _ h => h) (fun q h => hA q (Nat.le_trans hS.1 h)) (sbQ_ hS hQ) (fun _ h => absurd h List.not_mem_nil) hP hD hU hW⟩⟩ rfl rfl hl.1 rfl (lv_room (Nat.le_of_ble_eq_true rfl)) (show decode cJ5_append_cf1ce 10 = .ok (.invokevirtual 32, 3) from by decide +kernel) ⟨(Nat.le_of_ble_eq_true rfl), (Nat.le_of_ble_eq_true rfl)⟩) hS (fun _ h => h) (fun v9 w9 H1 locs hp hP hD hS hz9 hk9 => ?_)
  obtain ⟨rfl, e9⟩ := hp
  have e9 := e9.symm
  subst e9
  refine W.eq (g2 := F0 m 13 ls [.int (Int32.ofNat n)]) rfl ?_
  refine lv_istore_n (lv' := [(2, .int (Int32.ofNat n)), (0, .ref h), (1, .ref a)]) hx hb (show decode cJ5_append_cf1ce 13 = .ok (.istore_n 2, 1) from by decide +kernel) rfl hl (by decide) rfl (fun ls hl => ?_)
  refine lv_aload_n hx hb (show decode cJ5_append_cf1ce 14 = .ok (.aload_n 0, 1) from by decide +kernel) rfl (lv_at hl 1 rfl) ?_
  refine lv_aload_n hx hb (show decode cJ5_append_cf1ce 15 = .ok (.aload_n 0, 1) from by decide +kernel) rfl (lv_at hl 1 rfl) ?_
  refine va_get (D := D) (ci := 10) (v := .int (Int32.ofNat c)) (C := RJ4) (T := TJ4) (N := 4) hx hb hts wsok_J4 hown hK hP i hi rfl 3 (by decide) (hts _ wd_3_78) (fun _ h9 => h9) rfl (show decode cJ5_append_cf1ce 16 = .ok (.getfield 79, 3) from by decide +kernel) ?_
  refine lv_iload_n hx hb (show decode cJ5_append_cf1ce 19 = .ok (.iload_n 2, 1) from by decide +kernel) rfl (lv_at hl 0 rfl) ?_
  refine lv_iadd hx hb (show decode cJ5_append_cf1ce 20 = .ok (.iadd, 1) from by decide +kernel) ?_
  refine lv_topi fun y9 hy9 => ?_
  obtain rfl : y9 = (Int32.ofNat (c + n)) := hy9.trans (sb_add _ _)
  refine sb_go (va_runU (C := "java/lang/StringBuilder") (owner := "java/lang/AbstractStringBuilder") (As := [.int (Int32.ofNat (c + n))]) (rest := []) ⟨hx, hb, hml, hown, hts⟩ (tJ5_ensureCapacityInternal_d00df D cI cJ cD A ws i j h d c f (c + n) hi hj hc) (va_cwU 1 hts (sbGood (List.forall_mem_cons.mpr ⟨wd_3_100, List.forall_mem_cons.mpr ⟨wd_5_172, List.forall_mem_cons.mpr ⟨sbs_ensureCapacityInternal, List.forall_mem_cons.mpr ⟨wd_3_102, List.forall_mem_cons.mpr ⟨wd_1_16, fun _ h => absurd h List.not_mem_nil⟩⟩⟩⟩⟩) wd_3_103) rfl rfl rfl rfl ⟨by decide, by decide, by decide +kernel⟩ ⟨Nat.le_of_ble_eq_true rfl, Nat.le_of_ble_eq_true rfl⟩) ⟨sbW.blind, (va_recv hK hP (ci := 10) rfl hi), fun U hU hW => ⟨rfl, sbW.at hK hZ hS (fun _ h => h) (fun q h => hA q (Nat.le_trans hS.1 h)) (fun _ h => absurd h List.not_mem_nil) (fun _ h => absurd h List.not_mem_nil) hP hD hU hW⟩⟩ rfl rfl hl.1 rfl (lv_room (Nat.le_of_ble_eq_true rfl)) (show decode cJ5_append_cf1ce 21 = .ok (.invokevirtual 100, 3) from by decide +kernel) ⟨(Nat.le_of_ble_eq_true rfl), (Nat.le_of_ble_eq_true rfl)⟩) hS (fun _ h => h) (fun v9 w9 H1 locs hp hP hD hS hz9 hk9 => ?_)
  obtain ⟨rfl, e9⟩ := hp
  have e9 := e9.symm
  subst e9
  refine W.eq (g2 := F0 m 24 ls []) rfl ?_
  refine lv_aload_n hx hb (show decode cJ5_append_cf1ce 24 = .ok (.aload_n 0, 1) from by decide +kernel) rfl (lv_at hl 1 rfl) ?_
  refine lv_aload_n hx hb (show decode cJ5_append_cf1ce 25 = .ok (.aload_n 0, 1) from by decide +kernel) rfl (lv_at hl 1 rfl) ?_
  refine va_get (D := D) (ci := 10) (v := .int (Int32.ofNat c)) (C := RJ4) (T := TJ4) (N := 4) hx hb hts wsok_J4 hown hK hP i hi rfl 3 (by decide) (hts _ wd_3_78) (fun _ h9 => h9) rfl (show decode cJ5_append_cf1ce 26 = .ok (.getfield 79, 3) from by decide +kernel) ?_
  refine lv_aload_n hx hb (show decode cJ5_append_cf1ce 29 = .ok (.aload_n 1, 1) from by decide +kernel) rfl (lv_at hl 2 rfl) ?_
  refine sb_go (va_runU (C := "java/lang/StringBuilder") (owner := "java/lang/AbstractStringBuilder") (As := [.int (Int32.ofNat c), .ref a]) (rest := []) ⟨hx, hb, hml, hown, hts⟩ (tJ5_putStringAt_47b60 D cI cJ cD A ws a b n t i j h d c f hi hj hc ht) (va_cwU 2 hts (sbGood (List.forall_mem_cons.mpr ⟨wd_3_173, List.forall_mem_cons.mpr ⟨wd_5_174, List.forall_mem_cons.mpr ⟨sbs_putStringAt, List.forall_mem_cons.mpr ⟨wd_3_175, List.forall_mem_cons.mpr ⟨wd_1_16, fun _ h => absurd h List.not_mem_nil⟩⟩⟩⟩⟩) wd_3_176) rfl rfl rfl rfl ⟨by decide, by decide, by decide +kernel⟩ ⟨Nat.le_of_ble_eq_true rfl, Nat.le_of_ble_eq_true rfl⟩) ⟨sbW.blind, (va_recv hK hP (ci := 10) rfl hi), fun U hU hW => ⟨rfl, sbW.at hK hZ hS (fun _ h => h) (fun q h => hA q (Nat.le_trans hS.1 h)) (sbQ_ hS hQ) (fun _ h => absurd h List.not_mem_nil) hP hD hU hW⟩⟩ rfl rfl hl.1 rfl (lv_room (Nat.le_of_ble_eq_true rfl)) (show decode cJ5_append_cf1ce 30 = .ok (.invokevirtual 208, 3) from by decide +kernel) ⟨(Nat.le_of_ble_eq_true rfl), (Nat.le_of_ble_eq_true rfl)⟩) hS (fun _ h => h) (fun v9 w9 H1 locs hp hP hD hS hz9 hk9 => ?_)
  obtain ⟨rfl, e9⟩ := hp
  have e9 := e9.symm
  subst e9
  refine W.eq (g2 := F0 m 33 ls []) rfl ?_
  refine lv_aload_n hx hb (show decode cJ5_append_cf1ce 33 = .ok (.aload_n 0, 1) from by decide +kernel) rfl (lv_at hl 1 rfl) ?_
  refine lv_dup hx hb (show decode cJ5_append_cf1ce 34 = .ok (.dup, 1) from by decide +kernel) rfl ?_
  refine va_get (D := D) (ci := 10) (v := .int (Int32.ofNat c)) (C := RJ4) (T := TJ4) (N := 4) hx hb hts wsok_J4 hown hK hP i (sb_sj hne.symm hi) rfl 3 (by decide) (hts _ wd_3_78) (fun _ h9 => h9) rfl (show decode cJ5_append_cf1ce 35 = .ok (.getfield 79, 3) from by decide +kernel) ?_
  refine lv_iload_n hx hb (show decode cJ5_append_cf1ce 38 = .ok (.iload_n 2, 1) from by decide +kernel) rfl (lv_at hl 0 rfl) ?_
  refine lv_iadd hx hb (show decode cJ5_append_cf1ce 39 = .ok (.iadd, 1) from by decide +kernel) ?_
  refine lv_topi fun y9 hy9 => ?_
  obtain rfl : y9 = (Int32.ofNat (c + n)) := hy9.trans (sb_add _ _)
  refine va_put (D := D) (ci := 10) (v := .int (Int32.ofNat (c + n))) (ty := tyJ4 3) (C := RJ4) (T := TJ4) (N := 4) hx hb hts wsok_J4 tyJ4 tyJ4_ok nmJ4 hown hK hP hD hS i (sb_sj hne.symm hi) rfl 3 (by decide) (hts _ wd_3_78) (fun _ h9 => h9) rfl (by decide +kernel) rfl rfl (Nat.le_of_ble_eq_true rfl) (show decode cJ5_append_cf1ce 40 = .ok (.putfield 79, 3) from by decide +kernel) (fun H locs hP hD hS => ?_)
  refine lv_aload_n hx hb (show decode cJ5_append_cf1ce 43 = .ok (.aload_n 0, 1) from by decide +kernel) rfl (lv_at hl 1 rfl) ?_
  exact W.aret hx hb hr (Or.inl ⟨_, rfl⟩) (Or.inr ⟨_, rfl⟩) (fun t ht hW => ⟨⟨_, _, rfl, ⟨rfl, rfl⟩, by rw [ht]; exact hP, hD⟩, hS.F ht⟩) hS.2.2 (show decode cJ5_append_cf1ce 44 = .ok (.areturn, 1) from by decide +kernel) hlocks
def rtJ4_append_15ec4 : Room := { frames := 5, cells := 0, slots := 0, locals := 160 }
set_option maxHeartbeats 1000000 in
theorem tJ4_append_15ec4 {l : Launch} (D : va_G) (cI cJ cD : ClassId) (A : Nat → Prop) (ws : va_W) (a b n : Nat) (t : Nat → Nat) (i j h d c : Nat) (f : Nat → Int32) (hi : ws[i]? = some (sbB h d (Int32.ofNat c))) (hj : ws[j]? = some (sbY cD d f)) (hc : c + n ≤ 16) (ht : ∀ q, q < n → t q < 128) : Met l yJ4_append_15ec4 (Cond.code yJ4_append_15ec4 cJ4_append_15ec4 2 (some (.object "java/lang/StringBuilder")) :: pvTb) rtJ4_append_15ec4 (va_Pc [.ref h, .ref a] (sbW D cI cJ cD A ws [(a, b, n, (fun j => Int32.ofNat (t j)))] [])) (sbPost D A (fun v ws' => v = some (.ref h) ∧ ws' = ((ws.set j (sbY cD d (va_cpy (fun j => Int32.ofNat (t j)) f 0 c n))).set i (sbB h d (Int32.ofNat (c + n)))))) 0 0 A := by
  refine Met.ofW (cc := cJ4_append_15ec4) (maxL := 2) (ret := (some (.object "java/lang/StringBuilder"))) (by decide +kernel) rfl ?_
  intro p e s m args below meth cQ s₁ B hml hv
  obtain ⟨rfl, hK, hA, hZ, hQ, hT, hP, hD⟩ := hv
  have hx := B.exec
  have hb := B.bytes
  have hr := B.returns
  have hts0 := atoms_spec (ws := Cond.code yJ4_append_15ec4 cJ4_append_15ec4 2 (some (.object "java/lang/StringBuilder")) :: pvTb) B.pre
  have hts : ∀ w ∈ pvTb, w.before ([.ref h, .ref a] : List Value).toArray s = true := fun w hw => hts0 w (List.mem_cons_of_mem _ hw)
  have hown : s.vm.findClass RJ4 = some m.cls := findClass_of_methodNamed B.named
  have hlocks := B.notSynchronized
  have hS : va_S A s.heap s.heap [] := va_S.rf
  have hl := lv_entry ([.ref h, .ref a]) (n := 2) (Nat.le_of_ble_eq_true rfl)
  rw [lg_entry_eq]
  generalize (lg_sl ([.ref h, .ref a]) ++ List.replicate (2 - (lg_sl ([.ref h, .ref a])).length) Slot.unset).toArray = ls at hl ⊢
  have hl : lv_has ls 2 [(0, .ref h), (1, .ref a)] := hl
  have q0 : sbQ A a b n (fun j => Int32.ofNat (t j)) s s.heap := hQ _ List.mem_cons_self
  have t0 := q0.2.2.2
  refine lv_aload_n hx hb (show decode cJ4_append_15ec4 0 = .ok (.aload_n 0, 1) from by decide +kernel) rfl (lv_at hl 0 rfl) ?_
  refine lv_aload_n hx hb (show decode cJ4_append_15ec4 1 = .ok (.aload_n 1, 1) from by decide +kernel) rfl (lv_at hl 1 rfl) ?_
  refine sb_go (va_runSU (C := RJ4) (hK.1 10 _ rfl).2 (As := [.ref a]) (rest := []) ⟨hx, hb, hml, hown, hts⟩ (tJ5_append_cf1ce D cI cJ cD A ws a b n t i j h d c f hi hj hc ht) (va_cwSU 1 hts (sbGood (List.forall_mem_cons.mpr ⟨wd_3_93, List.forall_mem_cons.mpr ⟨wd_5_170, List.forall_mem_cons.mpr ⟨wd_3_87, List.forall_mem_cons.mpr ⟨wd_3_94, List.forall_mem_cons.mpr ⟨wd_1_16, fun _ h => absurd h List.not_mem_nil⟩⟩⟩⟩⟩) wd_3_95) rfl rfl rfl ⟨by decide, by decide +kernel⟩ ⟨Nat.le_of_ble_eq_true rfl, Nat.le_of_ble_eq_true rfl⟩) ⟨sbW.blind, (va_recv hK hP (ci := 10) rfl hi), fun U hU hW => ⟨rfl, sbW.at hK hZ hS (fun _ h => h) (fun q h => hA q (Nat.le_trans hS.1 h)) (sbQ_ hS hQ) (fun _ h => absurd h List.not_mem_nil) hP hD hU hW⟩⟩ rfl rfl hl.1 rfl (lv_room (Nat.le_of_ble_eq_true rfl)) (show decode cJ4_append_15ec4 2 = .ok (.invokespecial 29, 3) from by decide +kernel) ⟨(Nat.le_of_ble_eq_true rfl), (Nat.le_of_ble_eq_true rfl)⟩) hS (fun _ h => h) (fun v9 w9 H1 locs hp hP hD hS hz9 hk9 => ?_)
  obtain ⟨rfl, e9⟩ := hp
  have e9 := e9.symm
  subst e9
  refine W.eq (g2 := F0 m 5 ls [.ref h]) rfl ?_
  refine lv_pop hx hb (show decode cJ4_append_15ec4 5 = .ok (.pop, 1) from by decide +kernel) rfl ?_
  refine lv_aload_n hx hb (show decode cJ4_append_15ec4 6 = .ok (.aload_n 0, 1) from by decide +kernel) rfl (lv_at hl 0 rfl) ?_
  exact W.aret hx hb hr (Or.inl ⟨_, rfl⟩) (Or.inr ⟨_, rfl⟩) (fun t ht hW => ⟨⟨_, _, rfl, ⟨rfl, rfl⟩, by rw [ht]; exact hP, hD⟩, hS.F ht⟩) hS.2.2 (show decode cJ4_append_15ec4 7 = .ok (.areturn, 1) from by decide +kernel) hlocks
def rtJ6_stringSize_0f7a4 : Room := { frames := 1, cells := 0, slots := 0, locals := 32 }
set_option maxHeartbeats 1000000 in
theorem tJ6_stringSize_0f7a4 {l : Launch} (D : va_G) (cI cJ cD : ClassId) (A : Nat → Prop) (ws : va_W) (y : Nat) (hy : y < 4) : Met l yJ6_stringSize_0f7a4 (Cond.code yJ6_stringSize_0f7a4 cJ6_stringSize_0f7a4 4 (some .int) :: pvTb) rtJ6_stringSize_0f7a4 (va_Pc [.int (Int32.ofNat y)] (sbW D cI cJ cD A ws [] [])) (sbPost D A (fun v ws' => v = some (.int 1) ∧ ws' = ws)) 0 0 A := by
  refine Met.ofW (cc := cJ6_stringSize_0f7a4) (maxL := 4) (ret := (some .int)) (by decide +kernel) rfl ?_
  intro p e s m args below meth cQ s₁ B hml hv
  obtain ⟨rfl, hK, hA, hZ, hQ, hT, hP, hD⟩ := hv
  have hx := B.exec
  have hb := B.bytes
  have hr := B.returns
  have hts0 := atoms_spec (ws := Cond.code yJ6_stringSize_0f7a4 cJ6_stringSize_0f7a4 4 (some .int) :: pvTb) B.pre
  have hts : ∀ w ∈ pvTb, w.before ([.int (Int32.ofNat y)] : List Value).toArray s = true := fun w hw => hts0 w (List.mem_cons_of_mem _ hw)
  have hown : s.vm.findClass RJ6 = some m.cls := findClass_of_methodNamed B.named
  have hlocks := B.notSynchronized
  have hS : va_S A s.heap s.heap [] := va_S.rf
  have hl := lv_entry ([.int (Int32.ofNat y)]) (n := 4) (Nat.le_of_ble_eq_true rfl)
  rw [lg_entry_eq]
  generalize (lg_sl ([.int (Int32.ofNat y)]) ++ List.replicate (4 - (lg_sl ([.int (Int32.ofNat y)])).length) Slot.unset).toArray = ls at hl ⊢
  have hl : lv_has ls 4 [(0, .int (Int32.ofNat y))] := hl
  obtain ⟨g1, g2, g3, g4, g5, g6⟩ := sb_n3 y hy
  refine lv_iconst (v := (1)) hx hb (show decode cJ6_stringSize_0f7a4 0 = .ok (.iconst 1, 1) from by decide +kernel) (by decide) ?_
  refine lv_istore_n (lv' := [(1, .int 1), (0, .int (Int32.ofNat y))]) hx hb (show decode cJ6_stringSize_0f7a4 1 = .ok (.istore_n 1, 1) from by decide +kernel) rfl hl (by decide) rfl (fun ls hl => ?_)
  refine lv_iload_n hx hb (show decode cJ6_stringSize_0f7a4 2 = .ok (.iload_n 0, 1) from by decide +kernel) rfl (lv_at hl 1 rfl) ?_
  refine lv_if_lt hx hb (show decode cJ6_stringSize_0f7a4 3 = .ok (.ifCond .lt 8, 3) from by decide +kernel) (tgt := 11) rfl (fun h9 => absurd h9 g1) (fun _ => ?_)
  refine lv_iconst (v := (0)) hx hb (show decode cJ6_stringSize_0f7a4 6 = .ok (.iconst 0, 1) from by decide +kernel) (by decide) ?_
  refine lv_istore_n (lv' := [(1, .int 0), (0, .int (Int32.ofNat y))]) hx hb (show decode cJ6_stringSize_0f7a4 7 = .ok (.istore_n 1, 1) from by decide +kernel) rfl hl (by decide) rfl (fun ls hl => ?_)
  refine lv_iload_n hx hb (show decode cJ6_stringSize_0f7a4 8 = .ok (.iload_n 0, 1) from by decide +kernel) rfl (lv_at hl 1 rfl) ?_
  refine lv_ineg hx hb (show decode cJ6_stringSize_0f7a4 9 = .ok (.ineg, 1) from by decide +kernel) ?_
  refine lv_topi fun y9 hy9 => ?_
  obtain rfl : y9 = (-(Int32.ofNat y)) := hy9.trans rfl
  refine lv_istore_n (lv' := [(0, .int (-(Int32.ofNat y))), (1, .int 0)]) hx hb (show decode cJ6_stringSize_0f7a4 10 = .ok (.istore_n 0, 1) from by decide +kernel) rfl hl (by decide) rfl (fun ls hl => ?_)
  refine lv_bipush (v := (-10)) hx hb (show decode cJ6_stringSize_0f7a4 11 = .ok (.bipush (-10), 2) from by decide +kernel) (by decide) ?_
  refine lv_istore_n (lv' := [(2, .int (-10)), (0, .int (-(Int32.ofNat y))), (1, .int 0)]) hx hb (show decode cJ6_stringSize_0f7a4 13 = .ok (.istore_n 2, 1) from by decide +kernel) rfl hl (by decide) rfl (fun ls hl => ?_)
  refine lv_iconst (v := (1)) hx hb (show decode cJ6_stringSize_0f7a4 14 = .ok (.iconst 1, 1) from by decide +kernel) (by decide) ?_
  refine lv_istore_n (lv' := [(3, .int 1), (2, .int (-10)), (0, .int (-(Int32.ofNat y))), (1, .int 0)]) hx hb (show decode cJ6_stringSize_0f7a4 15 = .ok (.istore_n 3, 1) from by decide +kernel) rfl hl (by decide) rfl (fun ls hl => ?_)
  refine lv_iload_n hx hb (show decode cJ6_stringSize_0f7a4 16 = .ok (.iload_n 3, 1) from by decide +kernel) rfl (lv_at hl 0 rfl) ?_
  refine lv_bipush (v := (10)) hx hb (show decode cJ6_stringSize_0f7a4 17 = .ok (.bipush 10, 2) from by decide +kernel) (by decide) ?_
  refine lv_icmp_ge hx hb (show decode cJ6_stringSize_0f7a4 19 = .ok (.if_icmp .ge 23, 3) from by decide +kernel) (tgt := 42) rfl (fun h9 => absurd h9 (by decide)) (fun _ => ?_)
  refine lv_iload_n hx hb (show decode cJ6_stringSize_0f7a4 22 = .ok (.iload_n 0, 1) from by decide +kernel) rfl (lv_at hl 2 rfl) ?_
  refine lv_iload_n hx hb (show decode cJ6_stringSize_0f7a4 23 = .ok (.iload_n 2, 1) from by decide +kernel) rfl (lv_at hl 1 rfl) ?_
  refine lv_icmp_le hx hb (show decode cJ6_stringSize_0f7a4 24 = .ok (.if_icmp .le 7, 3) from by decide +kernel) (tgt := 31) rfl (fun h9 => absurd h9 g2) (fun _ => ?_)
  refine lv_iload_n hx hb (show decode cJ6_stringSize_0f7a4 27 = .ok (.iload_n 3, 1) from by decide +kernel) rfl (lv_at hl 0 rfl) ?_
  refine lv_iload_n hx hb (show decode cJ6_stringSize_0f7a4 28 = .ok (.iload_n 1, 1) from by decide +kernel) rfl (lv_at hl 3 rfl) ?_
  refine lv_iadd hx hb (show decode cJ6_stringSize_0f7a4 29 = .ok (.iadd, 1) from by decide +kernel) ?_
  refine lv_topi fun y9 hy9 => ?_
  obtain rfl : y9 = 1 := hy9.trans (by decide)
  exact W.iret hx hb hr (fun t ht hW => ⟨⟨_, _, rfl, ⟨rfl, rfl⟩, by rw [ht]; exact hP, hD⟩, hS.F ht⟩) hS.2.2 (show decode cJ6_stringSize_0f7a4 30 = .ok (.ireturn, 1) from by decide +kernel) hlocks
def rtJ6_getChars_ba4f3 : Room := { frames := 1, cells := 0, slots := 0, locals := 32 }
set_option maxHeartbeats 1000000 in
theorem tJ6_getChars_ba4f3 {l : Launch} (D : va_G) (cI cJ cD : ClassId) (A : Nat → Prop) (ws : va_W) (y j d c : Nat) (f : Nat → Int32) (hy : y < 4) (hj : ws[j]? = some (sbY cD d f)) (hc : c < 16) : Met l yJ6_getChars_ba4f3 (Cond.code yJ6_getChars_ba4f3 cJ6_getChars_ba4f3 7 (some .int) :: pvTb) rtJ6_getChars_ba4f3 (va_Pc [.int (Int32.ofNat y), .int (Int32.ofNat (c + 1)), .ref d] (sbW D cI cJ cD A ws [] [])) (sbPost D A (fun v ws' => v = some (.int (Int32.ofNat c)) ∧ ws' = (ws.set j (sbY cD d (upd f c (Int32.ofNat (48 + y))))))) 0 0 A := by
  refine Met.ofW (cc := cJ6_getChars_ba4f3) (maxL := 7) (ret := (some .int)) (by decide +kernel) rfl ?_
  intro p e s m args below meth cQ s₁ B hml hv
  obtain ⟨rfl, hK, hA, hZ, hQ, hT, hP, hD⟩ := hv
  have hx := B.exec
  have hb := B.bytes
  have hr := B.returns
  have hts0 := atoms_spec (ws := Cond.code yJ6_getChars_ba4f3 cJ6_getChars_ba4f3 7 (some .int) :: pvTb) B.pre
  have hts : ∀ w ∈ pvTb, w.before ([.int (Int32.ofNat y), .int (Int32.ofNat (c + 1)), .ref d] : List Value).toArray s = true := fun w hw => hts0 w (List.mem_cons_of_mem _ hw)
  have hown : s.vm.findClass RJ6 = some m.cls := findClass_of_methodNamed B.named
  have hlocks := B.notSynchronized
  have hS : va_S A s.heap s.heap [] := va_S.rf
  have hl := lv_entry ([.int (Int32.ofNat y), .int (Int32.ofNat (c + 1)), .ref d]) (n := 7) (Nat.le_of_ble_eq_true rfl)
  rw [lg_entry_eq]
  generalize (lg_sl ([.int (Int32.ofNat y), .int (Int32.ofNat (c + 1)), .ref d]) ++ List.replicate (7 - (lg_sl ([.int (Int32.ofNat y), .int (Int32.ofNat (c + 1)), .ref d])).length) Slot.unset).toArray = ls at hl ⊢
  have hl : lv_has ls 7 [(0, .int (Int32.ofNat y)), (1, .int (Int32.ofNat (c + 1))), (2, .ref d)] := hl
  obtain ⟨g1, g2, g3, g4, g5, g6⟩ := sb_n3 y hy
  obtain ⟨dg, hg1, hg2⟩ := hZ.2.2
  refine lv_iload_n hx hb (show decode cJ6_getChars_ba4f3 0 = .ok (.iload_n 1, 1) from by decide +kernel) rfl (lv_at hl 1 rfl) ?_
  refine lv_istore (lv' := [(5, .int (Int32.ofNat (c + 1))), (0, .int (Int32.ofNat y)), (1, .int (Int32.ofNat (c + 1))), (2, .ref d)]) hx hb (show decode cJ6_getChars_ba4f3 1 = .ok (.istore 5, 2) from by decide +kernel) hl (by decide) rfl (fun ls hl => ?_)
  refine lv_iload_n hx hb (show decode cJ6_getChars_ba4f3 3 = .ok (.iload_n 0, 1) from by decide +kernel) rfl (lv_at hl 1 rfl) ?_
  refine lv_if_ge hx hb (show decode cJ6_getChars_ba4f3 4 = .ok (.ifCond .ge 7, 3) from by decide +kernel) (tgt := 11) rfl (fun _ => ?_) (fun h9 => absurd g3 h9)
  refine lv_iconst (v := (0)) hx hb (show decode cJ6_getChars_ba4f3 11 = .ok (.iconst 0, 1) from by decide +kernel) (by decide) ?_
  refine lv_istore (lv' := [(6, .int 0), (5, .int (Int32.ofNat (c + 1))), (0, .int (Int32.ofNat y)), (1, .int (Int32.ofNat (c + 1))), (2, .ref d)]) hx hb (show decode cJ6_getChars_ba4f3 12 = .ok (.istore 6, 2) from by decide +kernel) hl (by decide) rfl (fun ls hl => ?_)
  refine lv_iload hx hb (show decode cJ6_getChars_ba4f3 14 = .ok (.iload 6, 2) from by decide +kernel) (lv_at hl 0 rfl) ?_
  refine lv_if_ne hx hb (show decode cJ6_getChars_ba4f3 16 = .ok (.ifCond .ne 6, 3) from by decide +kernel) (tgt := 22) rfl (fun h9 => absurd h9 (fun h => h rfl)) (fun _ => ?_)
  refine lv_iload_n hx hb (show decode cJ6_getChars_ba4f3 19 = .ok (.iload_n 0, 1) from by decide +kernel) rfl (lv_at hl 2 rfl) ?_
  refine lv_ineg hx hb (show decode cJ6_getChars_ba4f3 20 = .ok (.ineg, 1) from by decide +kernel) ?_
  refine lv_topi fun y9 hy9 => ?_
  obtain rfl : y9 = (-(Int32.ofNat y)) := hy9.trans rfl
  refine lv_istore_n (lv' := [(0, .int (-(Int32.ofNat y))), (6, .int 0), (5, .int (Int32.ofNat (c + 1))), (1, .int (Int32.ofNat (c + 1))), (2, .ref d)]) hx hb (show decode cJ6_getChars_ba4f3 21 = .ok (.istore_n 0, 1) from by decide +kernel) rfl hl (by decide) rfl (fun ls hl => ?_)
  refine lv_iload_n hx hb (show decode cJ6_getChars_ba4f3 22 = .ok (.iload_n 0, 1) from by decide +kernel) rfl (lv_at hl 0 rfl) ?_
  refine lv_bipush (v := (-100)) hx hb (show decode cJ6_getChars_ba4f3 23 = .ok (.bipush (-100), 2) from by decide +kernel) (by decide) ?_
  refine lv_icmp_gt hx hb (show decode cJ6_getChars_ba4f3 25 = .ok (.if_icmp .gt 47, 3) from by decide +kernel) (tgt := 72) rfl (fun _ => ?_) (fun h9 => absurd g4 h9)
  refine lv_aload_n hx hb (show decode cJ6_getChars_ba4f3 72 = .ok (.aload_n 2, 1) from by decide +kernel) rfl (lv_at hl 4 rfl) ?_
  refine lv_iinc (lv' := [(5, .int (Int32.ofNat c)), (0, .int (-(Int32.ofNat y))), (6, .int 0), (1, .int (Int32.ofNat (c + 1))), (2, .ref d)]) hx hb (show decode cJ6_getChars_ba4f3 73 = .ok (.iinc 5 (-1), 3) from by decide +kernel) hl (k := 2) rfl (sx_dec c hc) (by decide) rfl (fun ls hl => ?_)
  refine lv_iload hx hb (show decode cJ6_getChars_ba4f3 76 = .ok (.iload 5, 2) from by decide +kernel) (lv_at hl 0 rfl) ?_
  refine va_gets hx hb hg1 hS hown (hts _ wd_4_54) (fun _ h9 => h9) (show decode cJ6_getChars_ba4f3 78 = .ok (.getstatic 83, 3) from by decide +kernel) ?_
  refine lv_iload_n hx hb (show decode cJ6_getChars_ba4f3 81 = .ok (.iload_n 0, 1) from by decide +kernel) rfl (lv_at hl 1 rfl) ?_
  refine lv_ineg hx hb (show decode cJ6_getChars_ba4f3 82 = .ok (.ineg, 1) from by decide +kernel) ?_
  refine lv_topi fun y9 hy9 => ?_
  obtain rfl : y9 = (Int32.ofNat y) := hy9.trans g6
  refine va_tb hx hb hg2 hS (sb_in (by omega) (by decide)) (v := .int (Int32.ofNat (48 + y))) (by rw [sb_cn (by omega), Nat.mod_eq_of_lt (by omega)]) (show decode cJ6_getChars_ba4f3 83 = .ok (.baload, 1) from by decide +kernel) ?_
  refine va_bast hx hb hK hP hD hS j 2 hj rfl (sb_in hc (by decide)) (show decode cJ6_getChars_ba4f3 84 = .ok (.bastore, 1) from by decide +kernel) (fun H locs hP hD hS => ?_)
  rw [sb_cn (by omega), (sb_ch (48 + y) (by omega)).2.2.2.2] at hP hD
  refine lv_iload_n hx hb (show decode cJ6_getChars_ba4f3 85 = .ok (.iload_n 0, 1) from by decide +kernel) rfl (lv_at hl 1 rfl) ?_
  refine lv_bipush (v := (-9)) hx hb (show decode cJ6_getChars_ba4f3 86 = .ok (.bipush (-9), 2) from by decide +kernel) (by decide) ?_
  refine lv_icmp_ge hx hb (show decode cJ6_getChars_ba4f3 88 = .ok (.if_icmp .ge 16, 3) from by decide +kernel) (tgt := 104) rfl (fun _ => ?_) (fun h9 => absurd g5 h9)
  refine lv_iload hx hb (show decode cJ6_getChars_ba4f3 104 = .ok (.iload 6, 2) from by decide +kernel) (lv_at hl 2 rfl) ?_
  refine lv_if_eq hx hb (show decode cJ6_getChars_ba4f3 106 = .ok (.ifCond .eq 12, 3) from by decide +kernel) (tgt := 118) rfl (fun _ => ?_) (fun h9 => absurd rfl h9)
  refine lv_iload hx hb (show decode cJ6_getChars_ba4f3 118 = .ok (.iload 5, 2) from by decide +kernel) (lv_at hl 0 rfl) ?_
  exact W.iret hx hb hr (fun t ht hW => ⟨⟨_, _, rfl, ⟨rfl, rfl⟩, by rw [ht]; exact hP, hD⟩, hS.F ht⟩) hS.2.2 (show decode cJ6_getChars_ba4f3 120 = .ok (.ireturn, 1) from by decide +kernel) hlocks
def rtJ5_append_c97b9 : Room := { frames := 2, cells := 0, slots := 0, locals := 64 }
set_option maxHeartbeats 1000000 in
theorem tJ5_append_c97b9 {l : Launch} (D : va_G) (cI cJ cD : ClassId) (A : Nat → Prop) (ws : va_W) (i j h d c : Nat) (f : Nat → Int32) (y : Nat) (hi : ws[i]? = some (sbB h d (Int32.ofNat c))) (hj : ws[j]? = some (sbY cD d f)) (hy : y < 4) (hc : c < 16) : Met l yJ5_append_c97b9 (Cond.code yJ5_append_c97b9 cJ5_append_c97b9 4 (some (.object "java/lang/AbstractStringBuilder")) :: pvTb) rtJ5_append_c97b9 (va_Pc [.ref h, .int (Int32.ofNat y)] (sbW D cI cJ cD A ws [] [])) (sbPost D A (fun v ws' => v = some (.ref h) ∧ ws' = ((ws.set j (sbY cD d (upd f c (Int32.ofNat (48 + y))))).set i (sbB h d (Int32.ofNat (c + 1)))))) 0 0 A := by
  refine Met.ofW (cc := cJ5_append_c97b9) (maxL := 4) (ret := (some (.object "java/lang/AbstractStringBuilder"))) (by decide +kernel) rfl ?_
  intro p e s m args below meth cQ s₁ B hml hv
  obtain ⟨rfl, hK, hA, hZ, hQ, hT, hP, hD⟩ := hv
  have hx := B.exec
  have hb := B.bytes
  have hr := B.returns
  have hts0 := atoms_spec (ws := Cond.code yJ5_append_c97b9 cJ5_append_c97b9 4 (some (.object "java/lang/AbstractStringBuilder")) :: pvTb) B.pre
  have hts : ∀ w ∈ pvTb, w.before ([.ref h, .int (Int32.ofNat y)] : List Value).toArray s = true := fun w hw => hts0 w (List.mem_cons_of_mem _ hw)
  have hown : s.vm.findClass RJ5 = some m.cls := findClass_of_methodNamed B.named
  have hlocks := B.notSynchronized
  have hS : va_S A s.heap s.heap [] := va_S.rf
  have hl := lv_entry ([.ref h, .int (Int32.ofNat y)]) (n := 4) (Nat.le_of_ble_eq_true rfl)
  rw [lg_entry_eq]
  generalize (lg_sl ([.ref h, .int (Int32.ofNat y)]) ++ List.replicate (4 - (lg_sl ([.ref h, .int (Int32.ofNat y)])).length) Slot.unset).toArray = ls at hl ⊢
  have hl : lv_has ls 4 [(0, .ref h), (1, .int (Int32.ofNat y))] := hl
  have hne := sb_ne hi hj
  refine lv_aload_n hx hb (show decode cJ5_append_c97b9 0 = .ok (.aload_n 0, 1) from by decide +kernel) rfl (lv_at hl 0 rfl) ?_
  refine va_get (D := D) (ci := 10) (v := .int (Int32.ofNat c)) (C := RJ4) (T := TJ4) (N := 4) hx hb hts wsok_J4 hown hK hP i hi rfl 3 (by decide) (hts _ wd_3_78) (fun _ h9 => h9) rfl (show decode cJ5_append_c97b9 1 = .ok (.getfield 79, 3) from by decide +kernel) ?_
  refine lv_istore_n (lv' := [(2, .int (Int32.ofNat c)), (0, .ref h), (1, .int (Int32.ofNat y))]) hx hb (show decode cJ5_append_c97b9 4 = .ok (.istore_n 2, 1) from by decide +kernel) rfl hl (by decide) rfl (fun ls hl => ?_)
  refine lv_iload_n hx hb (show decode cJ5_append_c97b9 5 = .ok (.iload_n 2, 1) from by decide +kernel) rfl (lv_at hl 0 rfl) ?_
  refine lv_iload_n hx hb (show decode cJ5_append_c97b9 6 = .ok (.iload_n 1, 1) from by decide +kernel) rfl (lv_at hl 2 rfl) ?_
  refine sb_go (va_runS (As := [.int (Int32.ofNat y)]) (rest := [.int (Int32.ofNat c)]) ⟨hx, hb, hml, hown, hts⟩ (tJ6_stringSize_0f7a4 D cI cJ cD A ws y hy) ⟨callB_of 1 hts (pvGood_c pvTb_g wd_4_50) rfl rfl rfl (hts _ wd_1_25) (hts _ wd_4_48) ⟨by decide, by decide, by decide +kernel⟩ ⟨Nat.le_of_ble_eq_true rfl, Nat.le_of_ble_eq_true rfl⟩, hts _ wd_4_49⟩ ⟨sbW.blind, fun U hU hW => ⟨rfl, sbW.at hK hZ hS (fun _ h => h) (fun q h => hA q (Nat.le_trans hS.1 h)) (fun _ h => absurd h List.not_mem_nil) (fun _ h => absurd h List.not_mem_nil) hP hD hU hW⟩⟩ rfl rfl hl.1 rfl (lv_room (Nat.le_of_ble_eq_true rfl)) (show decode cJ5_append_c97b9 7 = .ok (.invokestatic 245, 3) from by decide +kernel) ⟨(Nat.le_of_ble_eq_true rfl), (Nat.le_of_ble_eq_true rfl)⟩) hS (fun _ h => h) (fun v9 w9 H1 locs hp hP hD hS hz9 hk9 => ?_)
  obtain ⟨rfl, e9⟩ := hp
  have e9 := e9.symm
  subst e9
  refine W.eq (g2 := F0 m 10 ls [.int 1, .int (Int32.ofNat c)]) rfl ?_
  refine lv_iadd hx hb (show decode cJ5_append_c97b9 10 = .ok (.iadd, 1) from by decide +kernel) ?_
  refine lv_topi fun y9 hy9 => ?_
  obtain rfl : y9 = (Int32.ofNat (c + 1)) := hy9.trans (sb_add c 1)
  refine lv_istore_n (lv' := [(3, .int (Int32.ofNat (c + 1))), (2, .int (Int32.ofNat c)), (0, .ref h), (1, .int (Int32.ofNat y))]) hx hb (show decode cJ5_append_c97b9 11 = .ok (.istore_n 3, 1) from by decide +kernel) rfl hl (by decide) rfl (fun ls hl => ?_)
  refine lv_aload_n hx hb (show decode cJ5_append_c97b9 12 = .ok (.aload_n 0, 1) from by decide +kernel) rfl (lv_at hl 2 rfl) ?_
  refine lv_iload_n hx hb (show decode cJ5_append_c97b9 13 = .ok (.iload_n 3, 1) from by decide +kernel) rfl (lv_at hl 0 rfl) ?_
  refine sb_go (va_runU (C := "java/lang/StringBuilder") (owner := "java/lang/AbstractStringBuilder") (As := [.int (Int32.ofNat (c + 1))]) (rest := []) ⟨hx, hb, hml, hown, hts⟩ (tJ5_ensureCapacityInternal_d00df D cI cJ cD A ws i j h d c f (c + 1) hi hj hc) (va_cwU 1 hts (sbGood (List.forall_mem_cons.mpr ⟨wd_3_100, List.forall_mem_cons.mpr ⟨wd_5_172, List.forall_mem_cons.mpr ⟨sbs_ensureCapacityInternal, List.forall_mem_cons.mpr ⟨wd_3_102, List.forall_mem_cons.mpr ⟨wd_1_16, fun _ h => absurd h List.not_mem_nil⟩⟩⟩⟩⟩) wd_3_103) rfl rfl rfl rfl ⟨by decide, by decide, by decide +kernel⟩ ⟨Nat.le_of_ble_eq_true rfl, Nat.le_of_ble_eq_true rfl⟩) ⟨sbW.blind, (va_recv hK hP (ci := 10) rfl hi), fun U hU hW => ⟨rfl, sbW.at hK hZ hS (fun _ h => h) (fun q h => hA q (Nat.le_trans hS.1 h)) (fun _ h => absurd h List.not_mem_nil) (fun _ h => absurd h List.not_mem_nil) hP hD hU hW⟩⟩ rfl rfl hl.1 rfl (lv_room (Nat.le_of_ble_eq_true rfl)) (show decode cJ5_append_c97b9 14 = .ok (.invokevirtual 100, 3) from by decide +kernel) ⟨(Nat.le_of_ble_eq_true rfl), (Nat.le_of_ble_eq_true rfl)⟩) hS (fun _ h => h) (fun v9 w9 H1 locs hp hP hD hS hz9 hk9 => ?_)
  obtain ⟨rfl, e9⟩ := hp
  have e9 := e9.symm
  subst e9
  refine W.eq (g2 := F0 m 17 ls []) rfl ?_
  refine lv_aload_n hx hb (show decode cJ5_append_c97b9 17 = .ok (.aload_n 0, 1) from by decide +kernel) rfl (lv_at hl 2 rfl) ?_
  refine sb_go (va_runU (C := "java/lang/StringBuilder") (owner := "java/lang/AbstractStringBuilder") (As := []) (rest := []) ⟨hx, hb, hml, hown, hts⟩ (tJ5_isLatin1_aae02 D cI cJ cD A ws i j h d c f hi hj) (va_cwU 0 hts (sbGood (List.forall_mem_cons.mpr ⟨wd_3_133, List.forall_mem_cons.mpr ⟨wd_3_135, List.forall_mem_cons.mpr ⟨wd_3_136, List.forall_mem_cons.mpr ⟨wd_3_134, List.forall_mem_cons.mpr ⟨wd_1_16, fun _ h => absurd h List.not_mem_nil⟩⟩⟩⟩⟩) wd_3_137) rfl rfl rfl rfl ⟨by decide, by decide, by decide +kernel⟩ ⟨Nat.le_of_ble_eq_true rfl, Nat.le_of_ble_eq_true rfl⟩) ⟨sbW.blind, (va_recv hK hP (ci := 10) rfl hi), fun U hU hW => ⟨rfl, sbW.at hK hZ hS (fun _ h => h) (fun q h => hA q (Nat.le_trans hS.1 h)) (fun _ h => absurd h List.not_mem_nil) (fun _ h => absurd h List.not_mem_nil) hP hD hU hW⟩⟩ rfl rfl hl.1 rfl (lv_room (Nat.le_of_ble_eq_true rfl)) (show decode cJ5_append_c97b9 18 = .ok (.invokevirtual 83, 3) from by decide +kernel) ⟨(Nat.le_of_ble_eq_true rfl), (Nat.le_of_ble_eq_true rfl)⟩) hS (fun _ h => h) (fun v9 w9 H1 locs hp hP hD hS hz9 hk9 => ?_)
  obtain ⟨rfl, e9⟩ := hp
  have e9 := e9.symm
  subst e9
  refine W.eq (g2 := F0 m 21 ls [.int 1]) rfl ?_
  refine lv_if_eq hx hb (show decode cJ5_append_c97b9 21 = .ok (.ifCond .eq 16, 3) from by decide +kernel) (tgt := 37) rfl (fun h9 => absurd h9 (by decide)) (fun _ => ?_)
  refine lv_iload_n hx hb (show decode cJ5_append_c97b9 24 = .ok (.iload_n 1, 1) from by decide +kernel) rfl (lv_at hl 3 rfl) ?_
  refine lv_iload_n hx hb (show decode cJ5_append_c97b9 25 = .ok (.iload_n 3, 1) from by decide +kernel) rfl (lv_at hl 0 rfl) ?_
  refine lv_aload_n hx hb (show decode cJ5_append_c97b9 26 = .ok (.aload_n 0, 1) from by decide +kernel) rfl (lv_at hl 2 rfl) ?_
  refine va_get (D := D) (ci := 10) (v := .ref d) (C := RJ4) (T := TJ4) (N := 4) hx hb hts wsok_J4 hown hK hP i hi rfl 0 (by decide) (hts _ wd_3_75) (fun _ h9 => h9) rfl (show decode cJ5_append_c97b9 27 = .ok (.getfield 15, 3) from by decide +kernel) ?_
  refine sb_go (va_runS (As := [.int (Int32.ofNat y), .int (Int32.ofNat (c + 1)), .ref d]) (rest := []) ⟨hx, hb, hml, hown, hts⟩ (tJ6_getChars_ba4f3 D cI cJ cD A ws y j d c f hy hj hc) ⟨callB_of 3 hts (pvGood_c pvTb_g wd_4_53) rfl rfl rfl (hts _ wd_1_25) (hts _ wd_4_51) ⟨by decide, by decide, by decide +kernel⟩ ⟨Nat.le_of_ble_eq_true rfl, Nat.le_of_ble_eq_true rfl⟩, hts _ wd_4_52⟩ ⟨sbW.blind, fun U hU hW => ⟨rfl, sbW.at hK hZ hS (fun _ h => h) (fun q h => hA q (Nat.le_trans hS.1 h)) (fun _ h => absurd h List.not_mem_nil) (fun _ h => absurd h List.not_mem_nil) hP hD hU hW⟩⟩ rfl rfl hl.1 rfl (lv_room (Nat.le_of_ble_eq_true rfl)) (show decode cJ5_append_c97b9 30 = .ok (.invokestatic 248, 3) from by decide +kernel) ⟨(Nat.le_of_ble_eq_true rfl), (Nat.le_of_ble_eq_true rfl)⟩) hS (fun _ h => h) (fun v9 w9 H1 locs hp hP hD hS hz9 hk9 => ?_)
  obtain ⟨rfl, e9⟩ := hp
  have e9 := e9.symm
  subst e9
  refine W.eq (g2 := F0 m 33 ls [.int (Int32.ofNat c)]) rfl ?_
  refine lv_pop hx hb (show decode cJ5_append_c97b9 33 = .ok (.pop, 1) from by decide +kernel) rfl ?_
  refine lv_goto hx hb (show decode cJ5_append_c97b9 34 = .ok (.goto 14, 3) from by decide +kernel) (tgt := 48) rfl ?_
  refine lv_aload_n hx hb (show decode cJ5_append_c97b9 48 = .ok (.aload_n 0, 1) from by decide +kernel) rfl (lv_at hl 2 rfl) ?_
  refine lv_iload_n hx hb (show decode cJ5_append_c97b9 49 = .ok (.iload_n 3, 1) from by decide +kernel) rfl (lv_at hl 0 rfl) ?_
  refine va_put (D := D) (ci := 10) (v := .int (Int32.ofNat (c + 1))) (ty := tyJ4 3) (C := RJ4) (T := TJ4) (N := 4) hx hb hts wsok_J4 tyJ4 tyJ4_ok nmJ4 hown hK hP hD hS i (sb_sj hne.symm hi) rfl 3 (by decide) (hts _ wd_3_78) (fun _ h9 => h9) rfl (by decide +kernel) rfl rfl (Nat.le_of_ble_eq_true rfl) (show decode cJ5_append_c97b9 50 = .ok (.putfield 79, 3) from by decide +kernel) (fun H locs hP hD hS => ?_)
  refine lv_aload_n hx hb (show decode cJ5_append_c97b9 53 = .ok (.aload_n 0, 1) from by decide +kernel) rfl (lv_at hl 2 rfl) ?_
  exact W.aret hx hb hr (Or.inl ⟨_, rfl⟩) (Or.inr ⟨_, rfl⟩) (fun t ht hW => ⟨⟨_, _, rfl, ⟨rfl, rfl⟩, by rw [ht]; exact hP, hD⟩, hS.F ht⟩) hS.2.2 (show decode cJ5_append_c97b9 54 = .ok (.areturn, 1) from by decide +kernel) hlocks
def rtJ4_append_bf812 : Room := { frames := 3, cells := 0, slots := 0, locals := 96 }
set_option maxHeartbeats 1000000 in
theorem tJ4_append_bf812 {l : Launch} (D : va_G) (cI cJ cD : ClassId) (A : Nat → Prop) (ws : va_W) (i j h d c : Nat) (f : Nat → Int32) (y : Nat) (hi : ws[i]? = some (sbB h d (Int32.ofNat c))) (hj : ws[j]? = some (sbY cD d f)) (hy : y < 4) (hc : c < 16) : Met l yJ4_append_bf812 (Cond.code yJ4_append_bf812 cJ4_append_bf812 2 (some (.object "java/lang/StringBuilder")) :: pvTb) rtJ4_append_bf812 (va_Pc [.ref h, .int (Int32.ofNat y)] (sbW D cI cJ cD A ws [] [])) (sbPost D A (fun v ws' => v = some (.ref h) ∧ ws' = ((ws.set j (sbY cD d (upd f c (Int32.ofNat (48 + y))))).set i (sbB h d (Int32.ofNat (c + 1)))))) 0 0 A := by
  refine Met.ofW (cc := cJ4_append_bf812) (maxL := 2) (ret := (some (.object "java/lang/StringBuilder"))) (by decide +kernel) rfl ?_
  intro p e s m args below meth cQ s₁ B hml hv
  obtain ⟨rfl, hK, hA, hZ, hQ, hT, hP, hD⟩ := hv
  have hx := B.exec
  have hb := B.bytes
  have hr := B.returns
  have hts0 := atoms_spec (ws := Cond.code yJ4_append_bf812 cJ4_append_bf812 2 (some (.object "java/lang/StringBuilder")) :: pvTb) B.pre
  have hts : ∀ w ∈ pvTb, w.before ([.ref h, .int (Int32.ofNat y)] : List Value).toArray s = true := fun w hw => hts0 w (List.mem_cons_of_mem _ hw)
  have hown : s.vm.findClass RJ4 = some m.cls := findClass_of_methodNamed B.named
  have hlocks := B.notSynchronized
  have hS : va_S A s.heap s.heap [] := va_S.rf
  have hl := lv_entry ([.ref h, .int (Int32.ofNat y)]) (n := 2) (Nat.le_of_ble_eq_true rfl)
  rw [lg_entry_eq]
  generalize (lg_sl ([.ref h, .int (Int32.ofNat y)]) ++ List.replicate (2 - (lg_sl ([.ref h, .int (Int32.ofNat y)])).length) Slot.unset).toArray = ls at hl ⊢
  have hl : lv_has ls 2 [(0, .ref h), (1, .int (Int32.ofNat y))] := hl
  refine lv_aload_n hx hb (show decode cJ4_append_bf812 0 = .ok (.aload_n 0, 1) from by decide +kernel) rfl (lv_at hl 0 rfl) ?_
  refine lv_iload_n hx hb (show decode cJ4_append_bf812 1 = .ok (.iload_n 1, 1) from by decide +kernel) rfl (lv_at hl 1 rfl) ?_
  refine sb_go (va_runSU (C := RJ4) (hK.1 10 _ rfl).2 (As := [.int (Int32.ofNat y)]) (rest := []) ⟨hx, hb, hml, hown, hts⟩ (tJ5_append_c97b9 D cI cJ cD A ws i j h d c f y hi hj hy hc) (va_cwSU 1 hts (sbGood (List.forall_mem_cons.mpr ⟨wd_4_45, List.forall_mem_cons.mpr ⟨wd_5_177, List.forall_mem_cons.mpr ⟨wd_3_87, List.forall_mem_cons.mpr ⟨wd_4_46, List.forall_mem_cons.mpr ⟨wd_1_16, fun _ h => absurd h List.not_mem_nil⟩⟩⟩⟩⟩) wd_4_47) rfl rfl rfl ⟨by decide, by decide +kernel⟩ ⟨Nat.le_of_ble_eq_true rfl, Nat.le_of_ble_eq_true rfl⟩) ⟨sbW.blind, (va_recv hK hP (ci := 10) rfl hi), fun U hU hW => ⟨rfl, sbW.at hK hZ hS (fun _ h => h) (fun q h => hA q (Nat.le_trans hS.1 h)) (fun _ h => absurd h List.not_mem_nil) (fun _ h => absurd h List.not_mem_nil) hP hD hU hW⟩⟩ rfl rfl hl.1 rfl (lv_room (Nat.le_of_ble_eq_true rfl)) (show decode cJ4_append_bf812 2 = .ok (.invokespecial 53, 3) from by decide +kernel) ⟨(Nat.le_of_ble_eq_true rfl), (Nat.le_of_ble_eq_true rfl)⟩) hS (fun _ h => h) (fun v9 w9 H1 locs hp hP hD hS hz9 hk9 => ?_)
  obtain ⟨rfl, e9⟩ := hp
  have e9 := e9.symm
  subst e9
  refine W.eq (g2 := F0 m 5 ls [.ref h]) rfl ?_
  refine lv_pop hx hb (show decode cJ4_append_bf812 5 = .ok (.pop, 1) from by decide +kernel) rfl ?_
  refine lv_aload_n hx hb (show decode cJ4_append_bf812 6 = .ok (.aload_n 0, 1) from by decide +kernel) rfl (lv_at hl 0 rfl) ?_
  exact W.aret hx hb hr (Or.inl ⟨_, rfl⟩) (Or.inr ⟨_, rfl⟩) (fun t ht hW => ⟨⟨_, _, rfl, ⟨rfl, rfl⟩, by rw [ht]; exact hP, hD⟩, hS.F ht⟩) hS.2.2 (show decode cJ4_append_bf812 7 = .ok (.areturn, 1) from by decide +kernel) hlocks
def rtJ5_init_d00df : Room := { frames := 2, cells := 1, slots := 16, locals := 64 }
set_option maxHeartbeats 1000000 in
theorem tJ5_init_d00df {l : Launch} (D : va_G) (cI cJ cD : ClassId) (A : Nat → Prop) (ws : va_W) (i h : Nat) (hi : ws[i]? = some (h, .inr (10, [.null, .int 0, .int 0, .int 0]))) : Met l yJ5_init_d00df (Cond.code yJ5_init_d00df cJ5_init_d00df 2 none :: pvTb) rtJ5_init_d00df (va_Pc [.ref h, .int 16] (sbW D cI cJ cD A ws [] [])) (sbPost D A (fun v ws' => ∃ d, v = none ∧ ws' = ws.set i (sbB h d 0) ++ [sbY cD d (fun _ => 0)])) 1 16 A := by
  refine Met.ofW (cc := cJ5_init_d00df) (maxL := 2) (ret := none) (by decide +kernel) rfl ?_
  intro p e s m args below meth cQ s₁ B hml hv
  obtain ⟨rfl, hK, hA, hZ, hQ, hT, hP, hD⟩ := hv
  have hx := B.exec
  have hb := B.bytes
  have hr := B.returns
  have hts0 := atoms_spec (ws := Cond.code yJ5_init_d00df cJ5_init_d00df 2 none :: pvTb) B.pre
  have hts : ∀ w ∈ pvTb, w.before ([.ref h, .int 16] : List Value).toArray s = true := fun w hw => hts0 w (List.mem_cons_of_mem _ hw)
  have hown : s.vm.findClass RJ5 = some m.cls := findClass_of_methodNamed B.named
  have hlocks := B.notSynchronized
  have hS : va_S A s.heap s.heap [] := va_S.rf
  have hl := lv_entry ([.ref h, .int 16]) (n := 2) (Nat.le_of_ble_eq_true rfl)
  rw [lg_entry_eq]
  generalize (lg_sl ([.ref h, .int 16]) ++ List.replicate (2 - (lg_sl ([.ref h, .int 16])).length) Slot.unset).toArray = ls at hl ⊢
  have hl : lv_has ls 2 [(0, .ref h), (1, .int 16)] := hl
  refine lv_aload_n hx hb (show decode cJ5_init_d00df 0 = .ok (.aload_n 0, 1) from by decide +kernel) rfl (lv_at hl 0 rfl) ?_
  refine W.objInit hx hb hown (hts _ wd_3_65) (hts _ wd_1_36) (hts _ wd_1_37) rfl (by rw [hml]; exact hl.1) rfl (show decode cJ5_init_d00df 1 = .ok (.invokespecial 3, 3) from by decide +kernel) (Nat.le_of_ble_eq_true rfl) (Nat.le_of_ble_eq_true rfl) ?_
  refine W.eq (g2 := F0 m 4 ls []) rfl ?_
  refine va_gets hx hb hZ.1 hS hown (hts _ wd_3_66) (fun _ h9 => h9) (show decode cJ5_init_d00df 4 = .ok (.getstatic 18, 3) from by decide +kernel) ?_
  refine lv_if_eq hx hb (show decode cJ5_init_d00df 7 = .ok (.ifCond .eq 18, 3) from by decide +kernel) (tgt := 25) rfl (fun h9 => absurd h9 (by decide)) (fun _ => ?_)
  refine lv_aload_n hx hb (show decode cJ5_init_d00df 10 = .ok (.aload_n 0, 1) from by decide +kernel) rfl (lv_at hl 0 rfl) ?_
  refine lv_iload_n hx hb (show decode cJ5_init_d00df 11 = .ok (.iload_n 1, 1) from by decide +kernel) rfl (lv_at hl 1 rfl) ?_
  refine pv_newa (atype := .byte) (ty := .byte) (N' := 16) (a0 := (16, .inl fun _ => (0 : Int32))) hx hb (hts _ wd_3_88) rfl hK (j := 2) rfl hP hD hS hA (fun _ => rfl) (by decide) (by decide) (by decide) (Nat.le_of_ble_eq_true rfl) (Nat.le_of_ble_eq_true rfl) (show decode cJ5_init_d00df 12 = .ok (.newarray .byte, 2) from by decide +kernel) (fun q9 H hP hD hS => ?_)
  refine va_put (D := D) (ci := 10) (v := .ref q9) (ty := tyJ4 0) (C := RJ4) (T := TJ4) (N := 4) hx hb hts wsok_J4 tyJ4 tyJ4_ok nmJ4 hown hK hP hD hS i (sb_ap hi) rfl 0 (by decide) (hts _ wd_3_75) (fun _ h9 => h9) rfl (by decide +kernel) rfl rfl (Nat.le_of_ble_eq_true rfl) (show decode cJ5_init_d00df 14 = .ok (.putfield 15, 3) from by decide +kernel) (fun H locs hP hD hS => ?_)
  refine lv_aload_n hx hb (show decode cJ5_init_d00df 17 = .ok (.aload_n 0, 1) from by decide +kernel) rfl (lv_at hl 0 rfl) ?_
  refine lv_iconst (v := (0)) hx hb (show decode cJ5_init_d00df 18 = .ok (.iconst 0, 1) from by decide +kernel) (by decide) ?_
  refine va_put (D := D) (ci := 10) (v := .int 0) (ty := tyJ4 1) (C := RJ4) (T := TJ4) (N := 4) hx hb hts wsok_J4 tyJ4 tyJ4_ok nmJ4 hown hK hP hD hS i (sb_si (sb_ap hi)) rfl 1 (by decide) (hts _ wd_3_76) (fun _ h9 => h9) rfl (by decide +kernel) rfl rfl (Nat.le_of_ble_eq_true rfl) (show decode cJ5_init_d00df 19 = .ok (.putfield 22, 3) from by decide +kernel) (fun H locs hP hD hS => ?_)
  refine lv_goto hx hb (show decode cJ5_init_d00df 22 = .ok (.goto 16, 3) from by decide +kernel) (tgt := 38) rfl ?_
  refine W.widen (k := 1) (n := 16) (Nat.le_of_ble_eq_true rfl) (Nat.le_of_ble_eq_true rfl) ?_
  exact W.vret hx hb hr (fun t ht hW => ⟨⟨_, _, rfl, ⟨q9, rfl, sb_set2 hi⟩, by rw [ht]; exact hP, hD⟩, hS.F ht⟩) hS.2.2 (show decode cJ5_init_d00df 38 = .ok (.return_, 1) from by decide +kernel) hlocks
def rtJ4_init_da8c8 : Room := { frames := 3, cells := 1, slots := 16, locals := 96 }
set_option maxHeartbeats 1000000 in
theorem tJ4_init_da8c8 {l : Launch} (D : va_G) (cI cJ cD : ClassId) (A : Nat → Prop) (ws : va_W) (i h : Nat) (hi : ws[i]? = some (h, .inr (10, [.null, .int 0, .int 0, .int 0]))) : Met l yJ4_init_da8c8 (Cond.code yJ4_init_da8c8 cJ4_init_da8c8 1 none :: pvTb) rtJ4_init_da8c8 (va_Pc [.ref h] (sbW D cI cJ cD A ws [] [])) (sbPost D A (fun v ws' => ∃ d, v = none ∧ ws' = ws.set i (sbB h d 0) ++ [sbY cD d (fun _ => 0)])) 1 16 A := by
  refine Met.ofW (cc := cJ4_init_da8c8) (maxL := 1) (ret := none) (by decide +kernel) rfl ?_
  intro p e s m args below meth cQ s₁ B hml hv
  obtain ⟨rfl, hK, hA, hZ, hQ, hT, hP, hD⟩ := hv
  have hx := B.exec
  have hb := B.bytes
  have hr := B.returns
  have hts0 := atoms_spec (ws := Cond.code yJ4_init_da8c8 cJ4_init_da8c8 1 none :: pvTb) B.pre
  have hts : ∀ w ∈ pvTb, w.before ([.ref h] : List Value).toArray s = true := fun w hw => hts0 w (List.mem_cons_of_mem _ hw)
  have hown : s.vm.findClass RJ4 = some m.cls := findClass_of_methodNamed B.named
  have hlocks := B.notSynchronized
  have hS : va_S A s.heap s.heap [] := va_S.rf
  have hl := lv_entry ([.ref h]) (n := 1) (Nat.le_of_ble_eq_true rfl)
  rw [lg_entry_eq]
  generalize (lg_sl ([.ref h]) ++ List.replicate (1 - (lg_sl ([.ref h])).length) Slot.unset).toArray = ls at hl ⊢
  have hl : lv_has ls 1 [(0, .ref h)] := hl
  refine lv_aload_n hx hb (show decode cJ4_init_da8c8 0 = .ok (.aload_n 0, 1) from by decide +kernel) rfl (lv_at hl 0 rfl) ?_
  refine lv_bipush (v := (16)) hx hb (show decode cJ4_init_da8c8 1 = .ok (.bipush 16, 2) from by decide +kernel) (by decide) ?_
  refine sb_go (va_runI (As := [.int 16]) (rest := []) ⟨hx, hb, hml, hown, hts⟩ (tJ5_init_d00df D cI cJ cD A ws i h hi) ⟨callB_of 1 hts (pvGood_c pvTb_g wd_3_64) rfl rfl rfl (hts _ wd_1_16) (hts _ wd_3_62) ⟨by decide, by decide, by decide +kernel⟩ ⟨Nat.le_of_ble_eq_true rfl, Nat.le_of_ble_eq_true rfl⟩, rfl, hts _ wd_3_63⟩ ⟨sbW.blind, fun U hU hW => ⟨rfl, sbW.at hK hZ hS (fun _ h => h) (fun q h => hA q (Nat.le_trans hS.1 h)) (fun _ h => absurd h List.not_mem_nil) (fun _ h => absurd h List.not_mem_nil) hP hD hU hW⟩⟩ rfl rfl hl.1 rfl (lv_room (Nat.le_of_ble_eq_true rfl)) (show decode cJ4_init_da8c8 3 = .ok (.invokespecial 1, 3) from by decide +kernel) ⟨(Nat.le_of_ble_eq_true rfl), (Nat.le_of_ble_eq_true rfl)⟩) hS (fun _ h => h) (fun v9 w9 H1 locs hp hP hD hS hz9 hk9 => ?_)
  obtain ⟨d, rfl, e9⟩ := hp
  have e9 := e9.symm
  subst e9
  refine W.eq (g2 := F0 m 6 ls []) rfl ?_
  refine W.widen (k := 1) (n := 16) (Nat.le_of_ble_eq_true rfl) (Nat.le_of_ble_eq_true rfl) ?_
  exact W.vret hx hb hr (fun t ht hW => ⟨⟨_, _, rfl, ⟨d, rfl, rfl⟩, by rw [ht]; exact hP, hD⟩, hS.F ht⟩) hS.2.2 (show decode cJ4_init_da8c8 6 = .ok (.return_, 1) from by decide +kernel) hlocks
def rtJ7_checkLength_df160 : Room := { frames := 1, cells := 0, slots := 0, locals := 32 }
set_option maxHeartbeats 1000000 in
theorem tJ7_checkLength_df160 {l : Launch} (D : va_G) (cI cJ cD : ClassId) (A : Nat → Prop) (ws : va_W) (n : Nat) (hn : n < 16) : Met l yJ7_checkLength_df160 (Cond.code yJ7_checkLength_df160 cJ7_checkLength_df160 2 none :: pvTb) rtJ7_checkLength_df160 (va_Pc [.int 0, .int (Int32.ofNat n)] (sbW D cI cJ cD A [] [] [])) (sbPost D A (fun v ws' => v = none ∧ ws' = [])) 0 0 A := by
  refine Met.ofW (cc := cJ7_checkLength_df160) (maxL := 2) (ret := none) (by decide +kernel) rfl ?_
  intro p e s m args below meth cQ s₁ B hml hv
  obtain ⟨rfl, hK, hA, hZ, hQ, hT, hP, hD⟩ := hv
  have hx := B.exec
  have hb := B.bytes
  have hr := B.returns
  have hts0 := atoms_spec (ws := Cond.code yJ7_checkLength_df160 cJ7_checkLength_df160 2 none :: pvTb) B.pre
  have hts : ∀ w ∈ pvTb, w.before ([.int 0, .int (Int32.ofNat n)] : List Value).toArray s = true := fun w hw => hts0 w (List.mem_cons_of_mem _ hw)
  have hown : s.vm.findClass RJ7 = some m.cls := findClass_of_methodNamed B.named
  have hlocks := B.notSynchronized
  have hS : va_S A s.heap s.heap [] := va_S.rf
  have hl := lv_entry ([.int 0, .int (Int32.ofNat n)]) (n := 2) (Nat.le_of_ble_eq_true rfl)
  rw [lg_entry_eq]
  generalize (lg_sl ([.int 0, .int (Int32.ofNat n)]) ++ List.replicate (2 - (lg_sl ([.int 0, .int (Int32.ofNat n)])).length) Slot.unset).toArray = ls at hl ⊢
  have hl : lv_has ls 2 [(0, .int 0), (1, .int (Int32.ofNat n))] := hl
  refine lv_iload_n hx hb (show decode cJ7_checkLength_df160 0 = .ok (.iload_n 1, 1) from by decide +kernel) rfl (lv_at hl 1 rfl) ?_
  refine lv_iload_n hx hb (show decode cJ7_checkLength_df160 1 = .ok (.iload_n 0, 1) from by decide +kernel) rfl (lv_at hl 0 rfl) ?_
  refine lv_icmp_ge hx hb (show decode cJ7_checkLength_df160 2 = .ok (.if_icmp .ge 35, 3) from by decide +kernel) (tgt := 37) rfl (fun _ => ?_) (fun h9 => absurd (sb_n16 n hn).2.2.1 h9)
  exact W.vret hx hb hr (fun t ht hW => ⟨⟨_, _, rfl, ⟨rfl, rfl⟩, by rw [ht]; exact hP, hD⟩, hS.F ht⟩) hS.2.2 (show decode cJ7_checkLength_df160 37 = .ok (.return_, 1) from by decide +kernel) hlocks
def rtJ7_copyOfRangeByte_39247 : Room := { frames := 2, cells := 1, slots := 16, locals := 64 }
set_option maxHeartbeats 1000000 in
theorem tJ7_copyOfRangeByte_39247 {l : Launch} (D : va_G) (cI cJ cD : ClassId) (A : Nat → Prop) (ws : va_W) (d n : Nat) (f : Nat → Int32) (hn : n < 16) (hf : ∀ q, q < n → fits .byte (.int (f q)) = true) : Met l yJ7_copyOfRangeByte_39247 (Cond.code yJ7_copyOfRangeByte_39247 cJ7_copyOfRangeByte_39247 5 (some (.array .byte)) :: pvTb) rtJ7_copyOfRangeByte_39247 (va_Pc [.ref d, .int 0, .int (Int32.ofNat n)] (sbW D cI cJ cD A [] [] [(d, 16, f)])) (sbPost D A (fun v ws' => ∃ q : Nat, v = some (.ref q) ∧ ws' = [(q, .inl (cD, n, .inl (va_cpy f (fun _ => 0) 0 0 n)))])) 1 16 A := by
  refine Met.ofW (cc := cJ7_copyOfRangeByte_39247) (maxL := 5) (ret := (some (.array .byte))) (by decide +kernel) rfl ?_
  intro p e s m args below meth cQ s₁ B hml hv
  obtain ⟨rfl, hK, hA, hZ, hQ, hT, hP, hD⟩ := hv
  have hx := B.exec
  have hb := B.bytes
  have hr := B.returns
  have hts0 := atoms_spec (ws := Cond.code yJ7_copyOfRangeByte_39247 cJ7_copyOfRangeByte_39247 5 (some (.array .byte)) :: pvTb) B.pre
  have hts : ∀ w ∈ pvTb, w.before ([.ref d, .int 0, .int (Int32.ofNat n)] : List Value).toArray s = true := fun w hw => hts0 w (List.mem_cons_of_mem _ hw)
  have hown : s.vm.findClass RJ7 = some m.cls := findClass_of_methodNamed B.named
  have hlocks := B.notSynchronized
  have hS : va_S A s.heap s.heap [] := va_S.rf
  have hl := lv_entry ([.ref d, .int 0, .int (Int32.ofNat n)]) (n := 5) (Nat.le_of_ble_eq_true rfl)
  rw [lg_entry_eq]
  generalize (lg_sl ([.ref d, .int 0, .int (Int32.ofNat n)]) ++ List.replicate (5 - (lg_sl ([.ref d, .int 0, .int (Int32.ofNat n)])).length) Slot.unset).toArray = ls at hl ⊢
  have hl : lv_has ls 5 [(0, .ref d), (1, .int 0), (2, .int (Int32.ofNat n))] := hl
  have t0 : va_T .byte d 16 (fun q => .int (f q)) A s s.heap := hT _ List.mem_cons_self
  refine lv_iload_n hx hb (show decode cJ7_copyOfRangeByte_39247 0 = .ok (.iload_n 1, 1) from by decide +kernel) rfl (lv_at hl 1 rfl) ?_
  refine lv_iload_n hx hb (show decode cJ7_copyOfRangeByte_39247 1 = .ok (.iload_n 2, 1) from by decide +kernel) rfl (lv_at hl 2 rfl) ?_
  refine sb_go (va_runS (As := [.int 0, .int (Int32.ofNat n)]) (rest := []) ⟨hx, hb, hml, hown, hts⟩ (tJ7_checkLength_df160 D cI cJ cD A [] n hn) ⟨callB_of 2 hts (pvGood_c pvTb_g wd_4_10) rfl rfl rfl (hts _ wd_1_21) (hts _ wd_4_8) ⟨by decide, by decide, by decide +kernel⟩ ⟨Nat.le_of_ble_eq_true rfl, Nat.le_of_ble_eq_true rfl⟩, hts _ wd_4_9⟩ ⟨sbW.blind, fun U hU hW => ⟨rfl, sbW.at hK hZ hS (fun _ h => h) (fun q h => hA q (Nat.le_trans hS.1 h)) (fun _ h => absurd h List.not_mem_nil) (fun _ h => absurd h List.not_mem_nil) hP hD hU hW⟩⟩ rfl rfl hl.1 rfl (lv_room (Nat.le_of_ble_eq_true rfl)) (show decode cJ7_copyOfRangeByte_39247 2 = .ok (.invokestatic 343, 3) from by decide +kernel) ⟨(Nat.le_of_ble_eq_true rfl), (Nat.le_of_ble_eq_true rfl)⟩) hS (fun _ h => h) (fun v9 w9 H1 locs hp hP hD hS hz9 hk9 => ?_)
  obtain ⟨rfl, e9⟩ := hp
  have e9 := e9.symm
  subst e9
  refine W.eq (g2 := F0 m 5 ls []) rfl ?_
  refine lv_iload_n hx hb (show decode cJ7_copyOfRangeByte_39247 5 = .ok (.iload_n 2, 1) from by decide +kernel) rfl (lv_at hl 2 rfl) ?_
  refine lv_iload_n hx hb (show decode cJ7_copyOfRangeByte_39247 6 = .ok (.iload_n 1, 1) from by decide +kernel) rfl (lv_at hl 1 rfl) ?_
  refine lv_isub hx hb (show decode cJ7_copyOfRangeByte_39247 7 = .ok (.isub, 1) from by decide +kernel) ?_
  refine lv_topi fun y9 hy9 => ?_
  obtain rfl : y9 = (Int32.ofNat n) := hy9.trans (sb_n16 n hn).2.2.2
  refine lv_istore_n (lv' := [(3, .int (Int32.ofNat n)), (0, .ref d), (1, .int 0), (2, .int (Int32.ofNat n))]) hx hb (show decode cJ7_copyOfRangeByte_39247 8 = .ok (.istore_n 3, 1) from by decide +kernel) rfl hl (by decide) rfl (fun ls hl => ?_)
  refine lv_iload_n hx hb (show decode cJ7_copyOfRangeByte_39247 9 = .ok (.iload_n 3, 1) from by decide +kernel) rfl (lv_at hl 0 rfl) ?_
  refine pv_newa (atype := .byte) (ty := .byte) (N' := n) (a0 := (n, .inl fun _ => (0 : Int32))) hx hb (hts _ wd_3_88) rfl hK (j := 2) rfl hP hD hS hA (fun _ => rfl) (sb_ng (by omega)) (sb_cn (by omega)) (by show n * 1 ≤ _; omega) (Nat.le_of_ble_eq_true rfl) (by show 0 + n ≤ 16; omega) (show decode cJ7_copyOfRangeByte_39247 10 = .ok (.newarray .byte, 2) from by decide +kernel) (fun q9 H hP hD hS => ?_)
  refine lv_astore (lv' := [(4, .ref q9), (3, .int (Int32.ofNat n)), (0, .ref d), (1, .int 0), (2, .int (Int32.ofNat n))]) hx hb (show decode cJ7_copyOfRangeByte_39247 12 = .ok (.astore 4, 2) from by decide +kernel) hl (by decide) rfl (fun ls hl => ?_)
  refine lv_aload_n hx hb (show decode cJ7_copyOfRangeByte_39247 14 = .ok (.aload_n 0, 1) from by decide +kernel) rfl (lv_at hl 2 rfl) ?_
  refine lv_iload_n hx hb (show decode cJ7_copyOfRangeByte_39247 15 = .ok (.iload_n 1, 1) from by decide +kernel) rfl (lv_at hl 3 rfl) ?_
  refine lv_aload hx hb (show decode cJ7_copyOfRangeByte_39247 16 = .ok (.aload 4, 2) from by decide +kernel) (lv_at hl 0 rfl) ?_
  refine lv_iconst (v := (0)) hx hb (show decode cJ7_copyOfRangeByte_39247 18 = .ok (.iconst 0, 1) from by decide +kernel) (by decide) ?_
  refine lv_aload_n hx hb (show decode cJ7_copyOfRangeByte_39247 19 = .ok (.aload_n 0, 1) from by decide +kernel) rfl (lv_at hl 2 rfl) ?_
  refine va_tlen hx hb t0 hS (v := 16) rfl (show decode cJ7_copyOfRangeByte_39247 20 = .ok (.arraylength, 1) from by decide +kernel) ?_
  refine lv_iload_n hx hb (show decode cJ7_copyOfRangeByte_39247 21 = .ok (.iload_n 1, 1) from by decide +kernel) rfl (lv_at hl 3 rfl) ?_
  refine lv_isub hx hb (show decode cJ7_copyOfRangeByte_39247 22 = .ok (.isub, 1) from by decide +kernel) ?_
  refine lv_topi fun y9 hy9 => ?_
  obtain rfl : y9 = 16 := hy9.trans (by decide)
  refine lv_iload_n hx hb (show decode cJ7_copyOfRangeByte_39247 23 = .ok (.iload_n 3, 1) from by decide +kernel) rfl (lv_at hl 1 rfl) ?_
  refine va_mmin hx hb (by rw [hml]; exact hl.1.symm) hown (hts _ wd_3_129) (hts _ wd_3_130) (hts _ wd_1_15) (hts _ wd_3_131) (Nat.le_of_ble_eq_true rfl) (Nat.le_of_ble_eq_true rfl) (Nat.le_of_ble_eq_true rfl) (by show 0 + n ≤ 16; omega) (show decode cJ7_copyOfRangeByte_39247 24 = .ok (.invokestatic 304, 3) from by decide +kernel) ?_
  refine lv_topi fun y9 hy9 => ?_
  obtain rfl : y9 = (Int32.ofNat n) := hy9.trans (if_pos (sb_n16 n hn).2.1)
  refine vk_copyt hx hb (by rw [hml]; exact hl.1.symm) hown (hts _ wd_3_132) (hts _ wd_3_37) (hts _ wd_3_36) (hts _ wd_1_14) hK hP hD hS t0 0 2 (show ([] ++ [(q9, Sum.inl (cD, (n, Sum.inl fun _ => (0 : Int32))))] : va_W)[0]? = some _ from rfl) rfl (by decide) (by decide) (sb_ng (by omega)) (by rw [sb_cn (by omega)]; show 0 + n ≤ 16; omega) (by rw [sb_cn (by omega)]; show 0 + n ≤ n; omega) (fun q hq => hf _ (by rw [sb_cn (by omega)] at hq; show 0 + q < n; omega)) (Nat.le_of_ble_eq_true rfl) (by show _ ≤ _; exact Nat.le_of_ble_eq_true rfl) (show decode cJ7_copyOfRangeByte_39247 27 = .ok (.invokestatic 150, 3) from by decide +kernel) (fun H locs hP hD hS => ?_)
  rw [sb_cn (by omega)] at hP hD
  refine lv_aload hx hb (show decode cJ7_copyOfRangeByte_39247 30 = .ok (.aload 4, 2) from by decide +kernel) (lv_at hl 0 rfl) ?_
  refine W.widen (k := 1) (n := 16) (Nat.le_of_ble_eq_true rfl) (by show 0 + n ≤ 16; omega) ?_
  exact W.aret hx hb hr (Or.inr ⟨_, rfl⟩) (Or.inr ⟨_, rfl⟩) (fun t ht hW => ⟨⟨_, _, rfl, ⟨q9, rfl, rfl⟩, by rw [ht]; exact hP, hD⟩, hS.F ht⟩) hS.2.2 (show decode cJ7_copyOfRangeByte_39247 32 = .ok (.areturn, 1) from by decide +kernel) hlocks
def rtJ7_copyOfRange_39247 : Room := { frames := 3, cells := 1, slots := 16, locals := 96 }
set_option maxHeartbeats 1000000 in
theorem tJ7_copyOfRange_39247 {l : Launch} (D : va_G) (cI cJ cD : ClassId) (A : Nat → Prop) (ws : va_W) (d n : Nat) (f : Nat → Int32) (hn : n < 16) (hf : ∀ q, q < n → fits .byte (.int (f q)) = true) : Met l yJ7_copyOfRange_39247 (Cond.code yJ7_copyOfRange_39247 cJ7_copyOfRange_39247 3 (some (.array .byte)) :: pvTb) rtJ7_copyOfRange_39247 (va_Pc [.ref d, .int 0, .int (Int32.ofNat n)] (sbW D cI cJ cD A [] [] [(d, 16, f)])) (sbPost D A (fun v ws' => ∃ q : Nat, v = some (.ref q) ∧ ws' = [(q, .inl (cD, n, .inl (va_cpy f (fun _ => 0) 0 0 n)))])) 1 16 A := by
  refine Met.ofW (cc := cJ7_copyOfRange_39247) (maxL := 3) (ret := (some (.array .byte))) (by decide +kernel) rfl ?_
  intro p e s m args below meth cQ s₁ B hml hv
  obtain ⟨rfl, hK, hA, hZ, hQ, hT, hP, hD⟩ := hv
  have hx := B.exec
  have hb := B.bytes
  have hr := B.returns
  have hts0 := atoms_spec (ws := Cond.code yJ7_copyOfRange_39247 cJ7_copyOfRange_39247 3 (some (.array .byte)) :: pvTb) B.pre
  have hts : ∀ w ∈ pvTb, w.before ([.ref d, .int 0, .int (Int32.ofNat n)] : List Value).toArray s = true := fun w hw => hts0 w (List.mem_cons_of_mem _ hw)
  have hown : s.vm.findClass RJ7 = some m.cls := findClass_of_methodNamed B.named
  have hlocks := B.notSynchronized
  have hS : va_S A s.heap s.heap [] := va_S.rf
  have hl := lv_entry ([.ref d, .int 0, .int (Int32.ofNat n)]) (n := 3) (Nat.le_of_ble_eq_true rfl)
  rw [lg_entry_eq]
  generalize (lg_sl ([.ref d, .int 0, .int (Int32.ofNat n)]) ++ List.replicate (3 - (lg_sl ([.ref d, .int 0, .int (Int32.ofNat n)])).length) Slot.unset).toArray = ls at hl ⊢
  have hl : lv_has ls 3 [(0, .ref d), (1, .int 0), (2, .int (Int32.ofNat n))] := hl
  have t0 : va_T .byte d 16 (fun q => .int (f q)) A s s.heap := hT _ List.mem_cons_self
  refine lv_iload_n hx hb (show decode cJ7_copyOfRange_39247 0 = .ok (.iload_n 1, 1) from by decide +kernel) rfl (lv_at hl 1 rfl) ?_
  refine lv_if_ne hx hb (show decode cJ7_copyOfRange_39247 1 = .ok (.ifCond .ne 9, 3) from by decide +kernel) (tgt := 10) rfl (fun h9 => absurd h9 (fun h => h rfl)) (fun _ => ?_)
  refine lv_iload_n hx hb (show decode cJ7_copyOfRange_39247 4 = .ok (.iload_n 2, 1) from by decide +kernel) rfl (lv_at hl 2 rfl) ?_
  refine lv_aload_n hx hb (show decode cJ7_copyOfRange_39247 5 = .ok (.aload_n 0, 1) from by decide +kernel) rfl (lv_at hl 0 rfl) ?_
  refine va_tlen hx hb t0 hS (v := 16) rfl (show decode cJ7_copyOfRange_39247 6 = .ok (.arraylength, 1) from by decide +kernel) ?_
  refine lv_icmp_eq hx hb (show decode cJ7_copyOfRange_39247 7 = .ok (.if_icmp .eq 10, 3) from by decide +kernel) (tgt := 17) rfl (fun h9 => absurd h9 (sb_n16 n hn).1) (fun _ => ?_)
  refine lv_aload_n hx hb (show decode cJ7_copyOfRange_39247 10 = .ok (.aload_n 0, 1) from by decide +kernel) rfl (lv_at hl 0 rfl) ?_
  refine lv_iload_n hx hb (show decode cJ7_copyOfRange_39247 11 = .ok (.iload_n 1, 1) from by decide +kernel) rfl (lv_at hl 1 rfl) ?_
  refine lv_iload_n hx hb (show decode cJ7_copyOfRange_39247 12 = .ok (.iload_n 2, 1) from by decide +kernel) rfl (lv_at hl 2 rfl) ?_
  refine sb_go (va_runS (As := [.ref d, .int 0, .int (Int32.ofNat n)]) (rest := []) ⟨hx, hb, hml, hown, hts⟩ (tJ7_copyOfRangeByte_39247 D cI cJ cD A [] d n f hn hf) ⟨callB_of 3 hts (pvGood_c pvTb_g wd_4_7) rfl rfl rfl (hts _ wd_1_21) (hts _ wd_4_5) ⟨by decide, by decide, by decide +kernel⟩ ⟨Nat.le_of_ble_eq_true rfl, Nat.le_of_ble_eq_true rfl⟩, hts _ wd_4_6⟩ ⟨sbW.blind, fun U hU hW => ⟨rfl, sbW.at hK hZ hS (fun _ h => h) (fun q h => hA q (Nat.le_trans hS.1 h)) (fun _ h => absurd h List.not_mem_nil) (fun q hq => by obtain rfl := List.mem_singleton.mp hq; exact t0.kept hS.2.1) hP hD hU hW⟩⟩ rfl rfl hl.1 rfl (lv_room (Nat.le_of_ble_eq_true rfl)) (show decode cJ7_copyOfRange_39247 13 = .ok (.invokestatic 339, 3) from by decide +kernel) ⟨(Nat.le_of_ble_eq_true rfl), (Nat.le_of_ble_eq_true rfl)⟩) hS (fun _ h => h) (fun v9 w9 H1 locs hp hP hD hS hz9 hk9 => ?_)
  obtain ⟨q8, rfl, e9⟩ := hp
  have e9 := e9.symm
  subst e9
  refine W.eq (g2 := F0 m 16 ls [.ref q8]) rfl ?_
  refine W.widen (k := 1) (n := 16) (Nat.le_of_ble_eq_true rfl) (Nat.le_of_ble_eq_true rfl) ?_
  exact W.aret hx hb hr (Or.inr ⟨_, rfl⟩) (Or.inr ⟨_, rfl⟩) (fun t ht hW => ⟨⟨_, _, rfl, ⟨q8, rfl, rfl⟩, by rw [ht]; exact hP, hD⟩, hS.F ht⟩) hS.2.2 (show decode cJ7_copyOfRange_39247 16 = .ok (.areturn, 1) from by decide +kernel) hlocks
def rtJ0_init_db425 : Room := { frames := 4, cells := 1, slots := 16, locals := 128 }
set_option maxHeartbeats 1000000 in
theorem tJ0_init_db425 {l : Launch} (D : va_G) (cI cJ cD : ClassId) (A : Nat → Prop) (ws : va_W) (a g : Nat) (i j h d c : Nat) (f : Nat → Int32) (hi : ws[i]? = some (sbB h d (Int32.ofNat c))) (hj : ws[j]? = some (sbY cD d f)) (hg : ws[g]? = some (a, .inr (9, [.null, .int 0, .int 0, .int 0]))) (hc : c < 16) (hf : ∀ q, q < c → fits .byte (.int (f q)) = true) : Met l yJ0_init_db425 (Cond.code yJ0_init_db425 cJ0_init_db425 5 none :: pvTb) rtJ0_init_db425 (va_Pc [.ref a, .ref h, .null] (sbW D cI cJ cD A ws [] [])) (sbPost D A (fun v ws' => ∃ q : Nat, v = none ∧ ws' = ws.set g (a, .inr (9, [.ref q, .int 0, .int 0, .int 0])) ++ [(q, .inl (cD, c, .inl (va_cpy f (fun _ => 0) 0 0 c)))])) 1 16 A := by
  refine Met.ofW (cc := cJ0_init_db425) (maxL := 5) (ret := none) (by decide +kernel) rfl ?_
  intro p e s m args below meth cQ s₁ B hml hv
  obtain ⟨rfl, hK, hA, hZ, hQ, hT, hP, hD⟩ := hv
  have hx := B.exec
  have hb := B.bytes
  have hr := B.returns
  have hts0 := atoms_spec (ws := Cond.code yJ0_init_db425 cJ0_init_db425 5 none :: pvTb) B.pre
  have hts : ∀ w ∈ pvTb, w.before ([.ref a, .ref h, .null] : List Value).toArray s = true := fun w hw => hts0 w (List.mem_cons_of_mem _ hw)
  have hown : s.vm.findClass RJ0 = some m.cls := findClass_of_methodNamed B.named
  have hlocks := B.notSynchronized
  have hS : va_S A s.heap s.heap [] := va_S.rf
  have hl := lv_entry ([.ref a, .ref h, .null]) (n := 5) (Nat.le_of_ble_eq_true rfl)
  rw [lg_entry_eq]
  generalize (lg_sl ([.ref a, .ref h, .null]) ++ List.replicate (5 - (lg_sl ([.ref a, .ref h, .null])).length) Slot.unset).toArray = ls at hl ⊢
  have hl : lv_has ls 5 [(0, .ref a), (1, .ref h), (2, .null)] := hl
  have hin : meth.name = "<init>" := (name_of_methodNamed B.named B.method).1
  have hne := sb_ne hi hj
  have hgj := sb_ne hg hj
  refine lv_aload_n hx hb (show decode cJ0_init_db425 0 = .ok (.aload_n 0, 1) from by decide +kernel) rfl (lv_at hl 0 rfl) ?_
  refine W.objInit hx hb hown (hts _ wd_3_227) (hts _ wd_1_36) (hts _ wd_1_37) rfl (by rw [hml]; exact hl.1) rfl (show decode cJ0_init_db425 1 = .ok (.invokespecial 1, 3) from by decide +kernel) (Nat.le_of_ble_eq_true rfl) (Nat.le_of_ble_eq_true rfl) ?_
  refine W.eq (g2 := F0 m 4 ls []) rfl ?_
  refine lv_aload_n hx hb (show decode cJ0_init_db425 4 = .ok (.aload_n 1, 1) from by decide +kernel) rfl (lv_at hl 1 rfl) ?_
  refine sb_go (va_runU (C := "java/lang/StringBuilder") (owner := "java/lang/AbstractStringBuilder") (As := []) (rest := []) ⟨hx, hb, hml, hown, hts⟩ (tJ5_getValue_6d5f1 D cI cJ cD A ws i j h d c f hi hj) (va_cwU 0 hts (sbGood (List.forall_mem_cons.mpr ⟨wd_3_228, List.forall_mem_cons.mpr ⟨wd_3_230, List.forall_mem_cons.mpr ⟨wd_3_231, List.forall_mem_cons.mpr ⟨wd_3_229, List.forall_mem_cons.mpr ⟨wd_1_16, fun _ h => absurd h List.not_mem_nil⟩⟩⟩⟩⟩) wd_3_232) rfl rfl rfl rfl ⟨by decide, by decide, by decide +kernel⟩ ⟨Nat.le_of_ble_eq_true rfl, Nat.le_of_ble_eq_true rfl⟩) ⟨sbW.blind, (va_recv hK hP (ci := 10) rfl hi), fun U hU hW => ⟨rfl, sbW.at hK hZ hS (fun _ h => h) (fun q h => hA q (Nat.le_trans hS.1 h)) (fun _ h => absurd h List.not_mem_nil) (fun _ h => absurd h List.not_mem_nil) hP hD hU hW⟩⟩ rfl rfl hl.1 rfl (lv_room (Nat.le_of_ble_eq_true rfl)) (show decode cJ0_init_db425 5 = .ok (.invokevirtual 552, 3) from by decide +kernel) ⟨(Nat.le_of_ble_eq_true rfl), (Nat.le_of_ble_eq_true rfl)⟩) hS (fun _ h => h) (fun v9 w9 H1 locs hp hP hD hS hz9 hk9 => ?_)
  obtain ⟨rfl, e9⟩ := hp
  have e9 := e9.symm
  subst e9
  refine W.eq (g2 := F0 m 8 ls [.ref d]) rfl ?_
  refine lv_astore_n (lv' := [(3, .ref d), (0, .ref a), (1, .ref h), (2, .null)]) hx hb (show decode cJ0_init_db425 8 = .ok (.astore_n 3, 1) from by decide +kernel) rfl hl (by decide) rfl (fun ls hl => ?_)
  refine lv_aload_n hx hb (show decode cJ0_init_db425 9 = .ok (.aload_n 1, 1) from by decide +kernel) rfl (lv_at hl 2 rfl) ?_
  refine sb_go (va_runU (C := "java/lang/StringBuilder") (owner := "java/lang/AbstractStringBuilder") (As := []) (rest := []) ⟨hx, hb, hml, hown, hts⟩ (tJ4_length_8abf5 D cI cJ cD A ws i j h d c f hi hj) (va_cwO (b0 := cJ5_length_8abf5) (m0 := 1) (r0 := (some .int)) 0 hts (sbGood (List.forall_mem_cons.mpr ⟨wd_3_233, List.forall_mem_cons.mpr ⟨wd_3_235, List.forall_mem_cons.mpr ⟨wd_3_234, List.forall_mem_cons.mpr ⟨wd_3_236, List.forall_mem_cons.mpr ⟨wd_3_237, List.forall_mem_cons.mpr ⟨wd_1_17, fun _ h => absurd h List.not_mem_nil⟩⟩⟩⟩⟩⟩) wd_3_238) rfl rfl rfl wd_4_0 ⟨by decide, by decide, by decide +kernel⟩ ⟨Nat.le_of_ble_eq_true rfl, Nat.le_of_ble_eq_true rfl⟩) ⟨sbW.blind, (va_recv hK hP (ci := 10) rfl hi), fun U hU hW => ⟨rfl, sbW.at hK hZ hS (fun _ h => h) (fun q h => hA q (Nat.le_trans hS.1 h)) (fun _ h => absurd h List.not_mem_nil) (fun _ h => absurd h List.not_mem_nil) hP hD hU hW⟩⟩ rfl rfl hl.1 rfl (lv_room (Nat.le_of_ble_eq_true rfl)) (show decode cJ0_init_db425 10 = .ok (.invokevirtual 549, 3) from by decide +kernel) ⟨(Nat.le_of_ble_eq_true rfl), (Nat.le_of_ble_eq_true rfl)⟩) hS (fun _ h => h) (fun v9 w9 H1 locs hp hP hD hS hz9 hk9 => ?_)
  obtain ⟨rfl, e9⟩ := hp
  have e9 := e9.symm
  subst e9
  refine W.eq (g2 := F0 m 13 ls [.int (Int32.ofNat c)]) rfl ?_
  refine lv_istore (lv' := [(4, .int (Int32.ofNat c)), (3, .ref d), (0, .ref a), (1, .ref h), (2, .null)]) hx hb (show decode cJ0_init_db425 13 = .ok (.istore 4, 2) from by decide +kernel) hl (by decide) rfl (fun ls hl => ?_)
  refine lv_aload_n hx hb (show decode cJ0_init_db425 15 = .ok (.aload_n 1, 1) from by decide +kernel) rfl (lv_at hl 3 rfl) ?_
  refine sb_go (va_runU (C := "java/lang/StringBuilder") (owner := "java/lang/AbstractStringBuilder") (As := []) (rest := []) ⟨hx, hb, hml, hown, hts⟩ (tJ5_isLatin1_aae02 D cI cJ cD A ws i j h d c f hi hj) (va_cwU 0 hts (sbGood (List.forall_mem_cons.mpr ⟨wd_4_1, List.forall_mem_cons.mpr ⟨wd_3_135, List.forall_mem_cons.mpr ⟨wd_3_136, List.forall_mem_cons.mpr ⟨wd_3_134, List.forall_mem_cons.mpr ⟨wd_1_16, fun _ h => absurd h List.not_mem_nil⟩⟩⟩⟩⟩) wd_3_137) rfl rfl rfl rfl ⟨by decide, by decide, by decide +kernel⟩ ⟨Nat.le_of_ble_eq_true rfl, Nat.le_of_ble_eq_true rfl⟩) ⟨sbW.blind, (va_recv hK hP (ci := 10) rfl hi), fun U hU hW => ⟨rfl, sbW.at hK hZ hS (fun _ h => h) (fun q h => hA q (Nat.le_trans hS.1 h)) (fun _ h => absurd h List.not_mem_nil) (fun _ h => absurd h List.not_mem_nil) hP hD hU hW⟩⟩ rfl rfl hl.1 rfl (lv_room (Nat.le_of_ble_eq_true rfl)) (show decode cJ0_init_db425 16 = .ok (.invokevirtual 1047, 3) from by decide +kernel) ⟨(Nat.le_of_ble_eq_true rfl), (Nat.le_of_ble_eq_true rfl)⟩) hS (fun _ h => h) (fun v9 w9 H1 locs hp hP hD hS hz9 hk9 => ?_)
  obtain ⟨rfl, e9⟩ := hp
  have e9 := e9.symm
  subst e9
  refine W.eq (g2 := F0 m 19 ls [.int 1]) rfl ?_
  refine lv_if_eq hx hb (show decode cJ0_init_db425 19 = .ok (.ifCond .eq 22, 3) from by decide +kernel) (tgt := 41) rfl (fun h9 => absurd h9 (by decide)) (fun _ => ?_)
  refine lv_aload_n hx hb (show decode cJ0_init_db425 22 = .ok (.aload_n 0, 1) from by decide +kernel) rfl (lv_at hl 2 rfl) ?_
  refine lv_iconst (v := (0)) hx hb (show decode cJ0_init_db425 23 = .ok (.iconst 0, 1) from by decide +kernel) (by decide) ?_
  refine va_putF (D := D) (ci := 9) (v := .int 0) (ty := tyJ0 1) (C := RJ0) (T := TJ0) (N := 4) hx hb hts wsok_J0 tyJ0 tyJ0_ok nmJ0 hown hK hP hD hS g hg rfl 1 (by decide) (hts _ wd_4_25) (fun _ h9 => h9) rfl hin rfl (by decide +kernel) rfl rfl (Nat.le_of_ble_eq_true rfl) (show decode cJ0_init_db425 24 = .ok (.putfield 15, 3) from by decide +kernel) (fun H locs hP hD hS => ?_)
  refine lv_aload_n hx hb (show decode cJ0_init_db425 27 = .ok (.aload_n 0, 1) from by decide +kernel) rfl (lv_at hl 2 rfl) ?_
  refine lv_aload_n hx hb (show decode cJ0_init_db425 28 = .ok (.aload_n 3, 1) from by decide +kernel) rfl (lv_at hl 1 rfl) ?_
  refine lv_iconst (v := (0)) hx hb (show decode cJ0_init_db425 29 = .ok (.iconst 0, 1) from by decide +kernel) (by decide) ?_
  refine lv_iload hx hb (show decode cJ0_init_db425 30 = .ok (.iload 4, 2) from by decide +kernel) (lv_at hl 0 rfl) ?_
  have hS0 := hS
  refine sb_go (va_runS (As := [.ref d, .int 0, .int (Int32.ofNat c)]) (rest := [.ref a]) ⟨hx, hb, hml, hown, hts⟩ (tJ7_copyOfRange_39247 D cI cJ cD (fun q => H.size ≤ q) [] d c f hc hf) ⟨callB_of 3 hts (pvGood_c pvTb_g wd_4_4) rfl rfl rfl (hts _ wd_1_21) (hts _ wd_4_2) ⟨by decide, by decide, by decide +kernel⟩ ⟨Nat.le_of_ble_eq_true rfl, Nat.le_of_ble_eq_true rfl⟩, hts _ wd_4_3⟩ ⟨sbW.blind, fun U hU hW => ⟨rfl, sbW.at hK hZ hS (fun q h => hA q (Nat.le_trans hS.1 h)) (fun q h => h) (fun _ h => absurd h List.not_mem_nil) (fun q hq => by obtain rfl := List.mem_singleton.mp hq; exact sbT_of hK hP (sb_sj hgj hj) (by show (16 : Nat) < 2 ^ 31; decide) (Nat.not_le.mpr (hP j _ (sb_sj hgj hj)).lt)) (fun k q h => by simp at h) ⟨fun i j p q h => by simp at h, fun k q h => by simp at h⟩ hU hW⟩⟩ rfl rfl hl.1 rfl (lv_room (Nat.le_of_ble_eq_true rfl)) (show decode cJ0_init_db425 32 = .ok (.invokestatic 54, 3) from by decide +kernel) ⟨(Nat.le_of_ble_eq_true rfl), (Nat.le_of_ble_eq_true rfl)⟩) hS (fun q h => hA q (Nat.le_trans hS.1 h)) (fun v9 w9 H1 locs hp hP1 hD1 hS hz9 hk9 => ?_)
  obtain ⟨q8, rfl, e9⟩ := hp
  have e9 := e9.symm
  subst e9
  obtain ⟨hP, hD⟩ := sb_join hP hD (fun q h => hA q (Nat.le_trans hS0.1 h)) (fun q h => h) hk9 hP1 hD1
  refine W.eq (g2 := F0 m 35 ls [.ref q8, .ref a]) rfl ?_
  refine va_putF (D := D) (ci := 9) (v := .ref q8) (ty := tyJ0 0) (C := RJ0) (T := TJ0) (N := 4) hx hb hts wsok_J0 tyJ0 tyJ0_ok nmJ0 hown hK hP hD hS g (sb_ap (sb_si hg)) rfl 0 (by decide) (hts _ wd_4_24) (fun _ h9 => h9) rfl hin rfl (by decide +kernel) rfl rfl (Nat.le_of_ble_eq_true rfl) (show decode cJ0_init_db425 35 = .ok (.putfield 9, 3) from by decide +kernel) (fun H locs hP hD hS => ?_)
  refine lv_goto hx hb (show decode cJ0_init_db425 38 = .ok (.goto 59, 3) from by decide +kernel) (tgt := 97) rfl ?_
  refine W.widen (k := 1) (n := 16) (Nat.le_of_ble_eq_true rfl) (Nat.le_of_ble_eq_true rfl) ?_
  exact W.vret hx hb hr (fun t ht hW => ⟨⟨_, _, rfl, ⟨q8, rfl, sb_set3 hg⟩, by rw [ht]; exact hP, hD⟩, hS.F ht⟩) hS.2.2 (show decode cJ0_init_db425 97 = .ok (.return_, 1) from by decide +kernel) hlocks
def rtJ0_init_81219 : Room := { frames := 5, cells := 1, slots := 16, locals := 160 }
set_option maxHeartbeats 1000000 in
theorem tJ0_init_81219 {l : Launch} (D : va_G) (cI cJ cD : ClassId) (A : Nat → Prop) (ws : va_W) (a g : Nat) (i j h d c : Nat) (f : Nat → Int32) (hi : ws[i]? = some (sbB h d (Int32.ofNat c))) (hj : ws[j]? = some (sbY cD d f)) (hg : ws[g]? = some (a, .inr (9, [.null, .int 0, .int 0, .int 0]))) (hc : c < 16) (hf : ∀ q, q < c → fits .byte (.int (f q)) = true) : Met l yJ0_init_81219 (Cond.code yJ0_init_81219 cJ0_init_81219 2 none :: pvTb) rtJ0_init_81219 (va_Pc [.ref a, .ref h] (sbW D cI cJ cD A ws [] [])) (sbPost D A (fun v ws' => ∃ q : Nat, v = none ∧ ws' = ws.set g (a, .inr (9, [.ref q, .int 0, .int 0, .int 0])) ++ [(q, .inl (cD, c, .inl (va_cpy f (fun _ => 0) 0 0 c)))])) 1 16 A := by
  refine Met.ofW (cc := cJ0_init_81219) (maxL := 2) (ret := none) (by decide +kernel) rfl ?_
  intro p e s m args below meth cQ s₁ B hml hv
  obtain ⟨rfl, hK, hA, hZ, hQ, hT, hP, hD⟩ := hv
  have hx := B.exec
  have hb := B.bytes
  have hr := B.returns
  have hts0 := atoms_spec (ws := Cond.code yJ0_init_81219 cJ0_init_81219 2 none :: pvTb) B.pre
  have hts : ∀ w ∈ pvTb, w.before ([.ref a, .ref h] : List Value).toArray s = true := fun w hw => hts0 w (List.mem_cons_of_mem _ hw)
  have hown : s.vm.findClass RJ0 = some m.cls := findClass_of_methodNamed B.named
  have hlocks := B.notSynchronized
  have hS : va_S A s.heap s.heap [] := va_S.rf
  have hl := lv_entry ([.ref a, .ref h]) (n := 2) (Nat.le_of_ble_eq_true rfl)
  rw [lg_entry_eq]
  generalize (lg_sl ([.ref a, .ref h]) ++ List.replicate (2 - (lg_sl ([.ref a, .ref h])).length) Slot.unset).toArray = ls at hl ⊢
  have hl : lv_has ls 2 [(0, .ref a), (1, .ref h)] := hl
  have hin : meth.name = "<init>" := (name_of_methodNamed B.named B.method).1
  refine lv_aload_n hx hb (show decode cJ0_init_81219 0 = .ok (.aload_n 0, 1) from by decide +kernel) rfl (lv_at hl 0 rfl) ?_
  refine lv_aload_n hx hb (show decode cJ0_init_81219 1 = .ok (.aload_n 1, 1) from by decide +kernel) rfl (lv_at hl 1 rfl) ?_
  refine lv_null hx hb (show decode cJ0_init_81219 2 = .ok (.aconst_null, 1) from by decide +kernel) ?_
  refine sb_go (va_runI (As := [.ref h, .null]) (rest := []) ⟨hx, hb, hml, hown, hts⟩ (tJ0_init_db425 D cI cJ cD A ws a g i j h d c f hi hj hg hc hf) ⟨callB_of 2 hts (pvGood_c pvTb_g wd_3_226) rfl rfl rfl (hts _ wd_1_18) (hts _ wd_3_224) ⟨by decide, by decide, by decide +kernel⟩ ⟨Nat.le_of_ble_eq_true rfl, Nat.le_of_ble_eq_true rfl⟩, rfl, hts _ wd_3_225⟩ ⟨sbW.blind, fun U hU hW => ⟨rfl, sbW.at hK hZ hS (fun _ h => h) (fun q h => hA q (Nat.le_trans hS.1 h)) (fun _ h => absurd h List.not_mem_nil) (fun _ h => absurd h List.not_mem_nil) hP hD hU hW⟩⟩ rfl rfl hl.1 rfl (lv_room (Nat.le_of_ble_eq_true rfl)) (show decode cJ0_init_81219 3 = .ok (.invokespecial 489, 3) from by decide +kernel) ⟨(Nat.le_of_ble_eq_true rfl), (Nat.le_of_ble_eq_true rfl)⟩) hS (fun _ h => h) (fun v9 w9 H1 locs hp hP hD hS hz9 hk9 => ?_)
  obtain ⟨q8, rfl, e9⟩ := hp
  have e9 := e9.symm
  subst e9
  refine W.eq (g2 := F0 m 6 ls []) rfl ?_
  refine W.widen (k := 1) (n := 16) (Nat.le_of_ble_eq_true rfl) (Nat.le_of_ble_eq_true rfl) ?_
  exact W.vret hx hb hr (fun t ht hW => ⟨⟨_, _, rfl, ⟨q8, rfl, rfl⟩, by rw [ht]; exact hP, hD⟩, hS.F ht⟩) hS.2.2 (show decode cJ0_init_81219 6 = .ok (.return_, 1) from by decide +kernel) hlocks
def rtJ4_toString_0e30d : Room := { frames := 6, cells := 2, slots := 20, locals := 192 }
set_option maxHeartbeats 1000000 in
theorem tJ4_toString_0e30d {l : Launch} (D : va_G) (cI cJ cD : ClassId) (A : Nat → Prop) (ws : va_W) (i j h d c : Nat) (f : Nat → Int32) (hi : ws[i]? = some (sbB h d (Int32.ofNat c))) (hj : ws[j]? = some (sbY cD d f)) (hc : c < 16) (hf : ∀ q, q < c → fits .byte (.int (f q)) = true) : Met l yJ4_toString_0e30d (Cond.code yJ4_toString_0e30d cJ4_toString_0e30d 1 (some (.object "java/lang/String")) :: pvTb) rtJ4_toString_0e30d (va_Pc [.ref h] (sbW D cI cJ cD A ws [] [])) (sbPost D A (fun v ws' => ∃ a q : Nat, v = some (.ref a) ∧ ws' = ws ++ [(a, .inr (9, [.ref q, .int 0, .int 0, .int 0])), (q, .inl (cD, c, .inl (va_cpy f (fun _ => 0) 0 0 c)))])) 2 20 A := by
  refine Met.ofW (cc := cJ4_toString_0e30d) (maxL := 1) (ret := (some (.object "java/lang/String"))) (by decide +kernel) rfl ?_
  intro p e s m args below meth cQ s₁ B hml hv
  obtain ⟨rfl, hK, hA, hZ, hQ, hT, hP, hD⟩ := hv
  have hx := B.exec
  have hb := B.bytes
  have hr := B.returns
  have hts0 := atoms_spec (ws := Cond.code yJ4_toString_0e30d cJ4_toString_0e30d 1 (some (.object "java/lang/String")) :: pvTb) B.pre
  have hts : ∀ w ∈ pvTb, w.before ([.ref h] : List Value).toArray s = true := fun w hw => hts0 w (List.mem_cons_of_mem _ hw)
  have hown : s.vm.findClass RJ4 = some m.cls := findClass_of_methodNamed B.named
  have hlocks := B.notSynchronized
  have hS : va_S A s.heap s.heap [] := va_S.rf
  have hl := lv_entry ([.ref h]) (n := 1) (Nat.le_of_ble_eq_true rfl)
  rw [lg_entry_eq]
  generalize (lg_sl ([.ref h]) ++ List.replicate (1 - (lg_sl ([.ref h])).length) Slot.unset).toArray = ls at hl ⊢
  have hl : lv_has ls 1 [(0, .ref h)] := hl
  refine va_new (ci := 9) (fs := [.null, .int 0, .int 0, .int 0]) (C := RJ0) (T := TJ0) (N := 4) hx hb hts wsok_J0 tyJ0 tyJ0_ok hown (hts _ wd_3_219) (hts _ wd_3_220) (hts _ wd_1_18) hK hP hD hS hA rfl (fun j hj => by rcases (show j = 0 ∨ j = 1 ∨ j = 2 ∨ j = 3 by omega) with rfl | rfl | rfl | rfl <;> rfl) (Nat.le_of_ble_eq_true rfl) (Nat.le_of_ble_eq_true rfl) (show decode cJ4_toString_0e30d 0 = .ok (.new 18, 3) from by decide +kernel) (fun q9 H hP hD hS => ?_)
  refine lv_dup hx hb (show decode cJ4_toString_0e30d 3 = .ok (.dup, 1) from by decide +kernel) rfl ?_
  refine lv_aload_n hx hb (show decode cJ4_toString_0e30d 4 = .ok (.aload_n 0, 1) from by decide +kernel) rfl (lv_at hl 0 rfl) ?_
  refine sb_go (va_runI (As := [.ref h]) (rest := [.ref q9]) ⟨hx, hb, hml, hown, hts⟩ (tJ0_init_81219 D cI cJ cD A (ws ++ [(q9, .inr (9, [.null, .int 0, .int 0, .int 0]))]) q9 ws.length i j h d c f (sb_ap hi) (sb_ap hj) sb_last hc hf) ⟨callB_of 1 hts (pvGood_c pvTb_g wd_3_223) rfl rfl rfl (hts _ wd_1_18) (hts _ wd_3_221) ⟨by decide, by decide, by decide +kernel⟩ ⟨Nat.le_of_ble_eq_true rfl, Nat.le_of_ble_eq_true rfl⟩, rfl, hts _ wd_3_222⟩ ⟨sbW.blind, fun U hU hW => ⟨rfl, sbW.at hK hZ hS (fun _ h => h) (fun q h => hA q (Nat.le_trans hS.1 h)) (fun _ h => absurd h List.not_mem_nil) (fun _ h => absurd h List.not_mem_nil) hP hD hU hW⟩⟩ rfl rfl hl.1 rfl (lv_room (Nat.le_of_ble_eq_true rfl)) (show decode cJ4_toString_0e30d 5 = .ok (.invokespecial 137, 3) from by decide +kernel) ⟨(Nat.le_of_ble_eq_true rfl), (Nat.le_of_ble_eq_true rfl)⟩) hS (fun _ h => h) (fun v9 w9 H1 locs hp hP hD hS hz9 hk9 => ?_)
  obtain ⟨q8, rfl, e9⟩ := hp
  have e9 := e9.symm
  subst e9
  refine W.eq (g2 := F0 m 8 ls [.ref q9]) rfl ?_
  refine W.widen (k := 2) (n := 20) (Nat.le_of_ble_eq_true rfl) (Nat.le_of_ble_eq_true rfl) ?_
  exact W.aret hx hb hr (Or.inl ⟨_, rfl⟩) (Or.inr ⟨_, rfl⟩) (fun t ht hW => ⟨⟨_, _, rfl, ⟨q9, q8, rfl, sb_set4⟩, by rw [ht]; exact hP, hD⟩, hS.F ht⟩) hS.2.2 (show decode cJ4_toString_0e30d 8 = .ok (.areturn, 1) from by decide +kernel) hlocks
