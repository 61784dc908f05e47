/-! the small constructors -/
abbrev wc_X0_init (cI cJ cD : ClassId) (h0 : Nat) (u : Nat → Nat) : va_W := [(h0, .inr (0, [.ref (u 0)])), ((u 0), .inl (cI, 173, .inl (upd (fun _ => (0 : Int32)) (1 : Int32).toNatClampNeg 1)))]
def mc_X0_init : Room := { frames := 1, cells := 1, slots := 173, locals := 12 }
set_option maxHeartbeats 4000000 in
set_option maxRecDepth 100000 in
theorem c_X0_init {l : Launch} (D : va_G) (cI cJ cD : ClassId) (h0 sz : Nat) : Met l yX0_init (Cond.code yX0_init cX0_init 1 none :: pvTb) mc_X0_init (va_Pc [.ref h0] (fun U => U.heap.size = sz ∧ va_P D vwCl [(h0, .inr (0, [.null]))] U.heap ∧ va_K D vwCl (pvTy cI cJ cD) U ∧ va_D (fun _ => True) [(h0, .inr (0, [.null]))])) (va_Qv (fun _ : Nat → Nat => True) (fun u t => va_P D vwCl (wc_X0_init cI cJ cD h0 u) t.heap ∧ va_D (va_A [(h0, .inr (0, [.null]))] sz) (wc_X0_init cI cJ cD h0 u)) (va_A [(h0, .inr (0, [.null]))] sz)) 1 173 (va_A [(h0, .inr (0, [.null]))] sz) := by
  refine Met.ofW (cc := cX0_init) (maxL := 1) (ret := none) plX0 rfl ?_
  intro p e s m args below meth c s₁ B hml hv
  obtain ⟨rfl, hsz, hP, hK, hD0⟩ := hv
  have hx := B.exec
  have hb := B.bytes
  have hr := B.returns
  have hts0 := atoms_spec (ws := Cond.code yX0_init cX0_init 1 none :: pvTb) B.pre
  have hts : ∀ w ∈ pvTb, w.before #[Value.ref h0] s = true := fun w hw => hts0 w (List.mem_cons_of_mem _ hw)
  have hown : s.vm.findClass RX0 = some m.cls := findClass_of_methodNamed B.named
  have hlocks := B.notSynchronized
  have hin : meth.name = "<init>" := (name_of_methodNamed B.named B.method).1
  subst hsz
  have hD := hD0.self (sz := s.heap.size)
  generalize hAe : va_A [(h0, .inr (0, [.null]))] s.heap.size = A at hD ⊢
  have hA : ∀ q : Nat, s.heap.size ≤ q → A q := fun q h => by rw [← hAe]; exact Or.inr h
  have hS : va_S A s.heap s.heap [] := va_S.rf
  have hl := lv_entry ([.ref h0]) (n := 1) (Nat.le_of_ble_eq_true rfl)
  rw [lg_entry_eq]
  generalize (lg_sl ([.ref h0]) ++ List.replicate (1 - (lg_sl ([.ref h0])).length) Slot.unset).toArray = ls at hl ⊢
  have hl : lv_has ls 1 [(0, .ref h0)] := hl
  refine lv_aload_n hx hb (show decode cX0_init 0 = .ok (.aload_n 0, 1) from by decide +kernel) rfl (lv_at hl 0 rfl) ?_
  refine W.objInit hx hb hown (hts _ wd_1_43) (hts _ wd_1_36) (hts _ wd_1_37) rfl (by rw [hml]; exact hl.1) rfl (show decode cX0_init 1 = .ok (.invokespecial 5, 3) from by decide +kernel) (Nat.le_of_ble_eq_true rfl) (Nat.le_of_ble_eq_true rfl) ?_
  refine W.eq (g2 := F0 m 4 ls []) rfl ?_
  refine lv_aload_n hx hb (show decode cX0_init 4 = .ok (.aload_n 0, 1) from by decide +kernel) rfl (lv_at hl 0 rfl) ?_
  refine lv_sipush (v := 173) hx hb (show decode cX0_init 5 = .ok (.sipush 173, 3) from by decide +kernel) (by decide) ?_
  refine pv_newa (atype := .int) (ty := .int) (N' := 173) (a0 := (173, .inl fun _ => (0 : Int32))) hx hb (hts _ wd_1_48) rfl hK (j := 0) rfl hP hD hS hA (fun _ => rfl) (by decide) (by decide) (by decide) (by first | exact Nat.le_of_ble_eq_true rfl | omega) (by first | exact Nat.le_of_ble_eq_true rfl | omega) (show decode cX0_init 8 = .ok (.newarray .int, 2) from by decide +kernel) (fun q8 H hP hD hS => ?_)
  have hP : va_P D vwCl [(h0, .inr (0, [.null])), (q8, .inl (cI, 173, .inl fun _ => (0 : Int32)))] H := hP
  have hD : va_D A [(h0, .inr (0, [.null])), (q8, .inl (cI, 173, .inl fun _ => (0 : Int32)))] := hD
  refine va_putF (D := D) (ci := 0) (v := .ref q8) (ty := tyX0 0) (C := RX0) (T := TX0) (N := 1) hx hb hts wsok_X0 tyX0 tyX0_ok nmX0 hown hK hP hD hS 0 rfl rfl 0 (by decide) (hts _ wd_1_44) (fun _ h9 => h9) rfl hin rfl (by decide +kernel) rfl rfl (Nat.le_of_ble_eq_true rfl) (show decode cX0_init 10 = .ok (.putfield 11, 3) from by decide +kernel) (fun H locs hP hD hS => ?_)
  have hP : va_P D vwCl [(h0, .inr (0, [.ref q8])), (q8, .inl (cI, 173, .inl fun _ => (0 : Int32)))] H := hP
  have hD : va_D A [(h0, .inr (0, [.ref q8])), (q8, .inl (cI, 173, .inl fun _ => (0 : Int32)))] := hD
  refine lv_aload_n hx hb (show decode cX0_init 13 = .ok (.aload_n 0, 1) from by decide +kernel) rfl (lv_at hl 0 rfl) ?_
  refine va_get (D := D) (ci := 0) (v := .ref q8) (C := RX0) (T := TX0) (N := 1) hx hb hts wsok_X0 hown hK hP 0 rfl rfl 0 (by decide) (hts _ wd_1_44) (fun _ h9 => h9) rfl (show decode cX0_init 14 = .ok (.getfield 11, 3) from by decide +kernel) ?_
  refine lv_iconst (v := 1) hx hb (show decode cX0_init 17 = .ok (.iconst 1, 1) from by decide +kernel) (by decide) ?_
  refine lv_iconst (v := 1) hx hb (show decode cX0_init 18 = .ok (.iconst 1, 1) from by decide +kernel) (by decide) ?_
  refine va_iast hx hb hK hP hD hS 1 0 rfl rfl (by unfold vp_in; decide) (show decode cX0_init 19 = .ok (.iastore, 1) from by decide +kernel) (fun H locs hP hD hS => ?_)
  have hP : va_P D vwCl [(h0, .inr (0, [.ref q8])), (q8, .inl (cI, 173, .inl (upd (fun _ => (0 : Int32)) (1 : Int32).toNatClampNeg 1)))] H := hP
  have hD : va_D A [(h0, .inr (0, [.ref q8])), (q8, .inl (cI, 173, .inl (upd (fun _ => (0 : Int32)) (1 : Int32).toNatClampNeg 1)))] := hD
  refine W.widen (k := 1) (n := 173) (Nat.le_of_ble_eq_true rfl) (Nat.le_of_ble_eq_true rfl) ?_
  exact W.vret hx hb hr (fun t ht hW => ⟨⟨fun k => [q8].getD k 0, rfl, True.intro, by rw [ht]; exact hP, hD⟩, hS.F ht⟩) hS.2.2 (show decode cX0_init 20 = .ok (.return_, 1) from by decide +kernel) hlocks
abbrev wc_X1_init (cI cJ cD : ClassId) (h0 : Nat) (u : Nat → Nat) : va_W := [(h0, .inr (1, [.ref (u 0), .int 0, .ref (u 1), .int 0, .int (-1)])), ((u 0), .inl (cI, 30, .inl fun _ => (0 : Int32))), ((u 1), .inl (cI, 12, .inl fun _ => (0 : Int32)))]
def mc_X1_init : Room := { frames := 1, cells := 2, slots := 42, locals := 12 }
set_option maxHeartbeats 4000000 in
set_option maxRecDepth 100000 in
theorem c_X1_init {l : Launch} (D : va_G) (cI cJ cD : ClassId) (h0 sz : Nat) : Met l yX1_init (Cond.code yX1_init cX1_init 1 none :: pvTb) mc_X1_init (va_Pc [.ref h0] (fun U => U.heap.size = sz ∧ va_P D vwCl [(h0, .inr (1, [.null, .int 0, .null, .int 0, .int 0]))] U.heap ∧ va_K D vwCl (pvTy cI cJ cD) U ∧ va_D (fun _ => True) [(h0, .inr (1, [.null, .int 0, .null, .int 0, .int 0]))])) (va_Qv (fun _ : Nat → Nat => True) (fun u t => va_P D vwCl (wc_X1_init cI cJ cD h0 u) t.heap ∧ va_D (va_A [(h0, .inr (1, [.null, .int 0, .null, .int 0, .int 0]))] sz) (wc_X1_init cI cJ cD h0 u)) (va_A [(h0, .inr (1, [.null, .int 0, .null, .int 0, .int 0]))] sz)) 2 42 (va_A [(h0, .inr (1, [.null, .int 0, .null, .int 0, .int 0]))] sz) := by
  refine Met.ofW (cc := cX1_init) (maxL := 1) (ret := none) plX1 rfl ?_
  intro p e s m args below meth c s₁ B hml hv
  obtain ⟨rfl, hsz, hP, hK, hD0⟩ := hv
  have hx := B.exec
  have hb := B.bytes
  have hr := B.returns
  have hts0 := atoms_spec (ws := Cond.code yX1_init cX1_init 1 none :: pvTb) B.pre
  have hts : ∀ w ∈ pvTb, w.before #[Value.ref h0] s = true := fun w hw => hts0 w (List.mem_cons_of_mem _ hw)
  have hown : s.vm.findClass RX1 = some m.cls := findClass_of_methodNamed B.named
  have hlocks := B.notSynchronized
  have hin : meth.name = "<init>" := (name_of_methodNamed B.named B.method).1
  subst hsz
  have hD := hD0.self (sz := s.heap.size)
  generalize hAe : va_A [(h0, .inr (1, [.null, .int 0, .null, .int 0, .int 0]))] s.heap.size = A at hD ⊢
  have hA : ∀ q : Nat, s.heap.size ≤ q → A q := fun q h => by rw [← hAe]; exact Or.inr h
  have hS : va_S A s.heap s.heap [] := va_S.rf
  have hl := lv_entry ([.ref h0]) (n := 1) (Nat.le_of_ble_eq_true rfl)
  rw [lg_entry_eq]
  generalize (lg_sl ([.ref h0]) ++ List.replicate (1 - (lg_sl ([.ref h0])).length) Slot.unset).toArray = ls at hl ⊢
  have hl : lv_has ls 1 [(0, .ref h0)] := hl
  refine lv_aload_n hx hb (show decode cX1_init 0 = .ok (.aload_n 0, 1) from by decide +kernel) rfl (lv_at hl 0 rfl) ?_
  refine W.objInit hx hb hown (hts _ wd_1_88) (hts _ wd_1_36) (hts _ wd_1_37) rfl (by rw [hml]; exact hl.1) rfl (show decode cX1_init 1 = .ok (.invokespecial 3, 3) from by decide +kernel) (Nat.le_of_ble_eq_true rfl) (Nat.le_of_ble_eq_true rfl) ?_
  refine W.eq (g2 := F0 m 4 ls []) rfl ?_
  refine lv_aload_n hx hb (show decode cX1_init 4 = .ok (.aload_n 0, 1) from by decide +kernel) rfl (lv_at hl 0 rfl) ?_
  refine lv_bipush (v := 30) hx hb (show decode cX1_init 5 = .ok (.bipush 30, 2) from by decide +kernel) (by decide) ?_
  refine pv_newa (atype := .int) (ty := .int) (N' := 30) (a0 := (30, .inl fun _ => (0 : Int32))) hx hb (hts _ wd_1_48) rfl hK (j := 0) rfl hP hD hS hA (fun _ => rfl) (by decide) (by decide) (by decide) (by first | exact Nat.le_of_ble_eq_true rfl | omega) (by first | exact Nat.le_of_ble_eq_true rfl | omega) (show decode cX1_init 7 = .ok (.newarray .int, 2) from by decide +kernel) (fun q7 H hP hD hS => ?_)
  have hP : va_P D vwCl [(h0, .inr (1, [.null, .int 0, .null, .int 0, .int 0])), (q7, .inl (cI, 30, .inl fun _ => (0 : Int32)))] H := hP
  have hD : va_D A [(h0, .inr (1, [.null, .int 0, .null, .int 0, .int 0])), (q7, .inl (cI, 30, .inl fun _ => (0 : Int32)))] := hD
  refine va_putF (D := D) (ci := 1) (v := .ref q7) (ty := tyX1 0) (C := RX1) (T := TX1) (N := 5) hx hb hts wsok_X1 tyX1 tyX1_ok nmX1 hown hK hP hD hS 0 rfl rfl 0 (by decide) (hts _ wd_1_89) (fun _ h9 => h9) rfl hin rfl (by decide +kernel) rfl rfl (Nat.le_of_ble_eq_true rfl) (show decode cX1_init 9 = .ok (.putfield 9, 3) from by decide +kernel) (fun H locs hP hD hS => ?_)
  have hP : va_P D vwCl [(h0, .inr (1, [.ref q7, .int 0, .null, .int 0, .int 0])), (q7, .inl (cI, 30, .inl fun _ => (0 : Int32)))] H := hP
  have hD : va_D A [(h0, .inr (1, [.ref q7, .int 0, .null, .int 0, .int 0])), (q7, .inl (cI, 30, .inl fun _ => (0 : Int32)))] := hD
  refine lv_aload_n hx hb (show decode cX1_init 12 = .ok (.aload_n 0, 1) from by decide +kernel) rfl (lv_at hl 0 rfl) ?_
  refine lv_iconst (v := 0) hx hb (show decode cX1_init 13 = .ok (.iconst 0, 1) from by decide +kernel) (by decide) ?_
  refine va_put (D := D) (ci := 1) (v := .int 0) (ty := tyX1 1) (C := RX1) (T := TX1) (N := 5) hx hb hts wsok_X1 tyX1 tyX1_ok nmX1 hown hK hP hD hS 0 rfl rfl 1 (by decide) (hts _ wd_1_90) (fun _ h9 => h9) rfl (by decide +kernel) rfl rfl (Nat.le_of_ble_eq_true rfl) (show decode cX1_init 14 = .ok (.putfield 15, 3) from by decide +kernel) (fun H locs hP hD hS => ?_)
  have hP : va_P D vwCl [(h0, .inr (1, [.ref q7, .int 0, .null, .int 0, .int 0])), (q7, .inl (cI, 30, .inl fun _ => (0 : Int32)))] H := hP
  have hD : va_D A [(h0, .inr (1, [.ref q7, .int 0, .null, .int 0, .int 0])), (q7, .inl (cI, 30, .inl fun _ => (0 : Int32)))] := hD
  refine lv_aload_n hx hb (show decode cX1_init 17 = .ok (.aload_n 0, 1) from by decide +kernel) rfl (lv_at hl 0 rfl) ?_
  refine lv_bipush (v := 12) hx hb (show decode cX1_init 18 = .ok (.bipush 12, 2) from by decide +kernel) (by decide) ?_
  refine pv_newa (atype := .int) (ty := .int) (N' := 12) (a0 := (12, .inl fun _ => (0 : Int32))) hx hb (hts _ wd_1_48) rfl hK (j := 0) rfl hP hD hS hA (fun _ => rfl) (by decide) (by decide) (by decide) (by first | exact Nat.le_of_ble_eq_true rfl | omega) (by first | exact Nat.le_of_ble_eq_true rfl | omega) (show decode cX1_init 20 = .ok (.newarray .int, 2) from by decide +kernel) (fun q20 H hP hD hS => ?_)
  have hP : va_P D vwCl [(h0, .inr (1, [.ref q7, .int 0, .null, .int 0, .int 0])), (q7, .inl (cI, 30, .inl fun _ => (0 : Int32))), (q20, .inl (cI, 12, .inl fun _ => (0 : Int32)))] H := hP
  have hD : va_D A [(h0, .inr (1, [.ref q7, .int 0, .null, .int 0, .int 0])), (q7, .inl (cI, 30, .inl fun _ => (0 : Int32))), (q20, .inl (cI, 12, .inl fun _ => (0 : Int32)))] := hD
  refine va_putF (D := D) (ci := 1) (v := .ref q20) (ty := tyX1 2) (C := RX1) (T := TX1) (N := 5) hx hb hts wsok_X1 tyX1 tyX1_ok nmX1 hown hK hP hD hS 0 rfl rfl 2 (by decide) (hts _ wd_1_91) (fun _ h9 => h9) rfl hin rfl (by decide +kernel) rfl rfl (Nat.le_of_ble_eq_true rfl) (show decode cX1_init 22 = .ok (.putfield 19, 3) from by decide +kernel) (fun H locs hP hD hS => ?_)
  have hP : va_P D vwCl [(h0, .inr (1, [.ref q7, .int 0, .ref q20, .int 0, .int 0])), (q7, .inl (cI, 30, .inl fun _ => (0 : Int32))), (q20, .inl (cI, 12, .inl fun _ => (0 : Int32)))] H := hP
  have hD : va_D A [(h0, .inr (1, [.ref q7, .int 0, .ref q20, .int 0, .int 0])), (q7, .inl (cI, 30, .inl fun _ => (0 : Int32))), (q20, .inl (cI, 12, .inl fun _ => (0 : Int32)))] := hD
  refine lv_aload_n hx hb (show decode cX1_init 25 = .ok (.aload_n 0, 1) from by decide +kernel) rfl (lv_at hl 0 rfl) ?_
  refine lv_iconst (v := 0) hx hb (show decode cX1_init 26 = .ok (.iconst 0, 1) from by decide +kernel) (by decide) ?_
  refine va_put (D := D) (ci := 1) (v := .int 0) (ty := tyX1 3) (C := RX1) (T := TX1) (N := 5) hx hb hts wsok_X1 tyX1 tyX1_ok nmX1 hown hK hP hD hS 0 rfl rfl 3 (by decide) (hts _ wd_1_92) (fun _ h9 => h9) rfl (by decide +kernel) rfl rfl (Nat.le_of_ble_eq_true rfl) (show decode cX1_init 27 = .ok (.putfield 22, 3) from by decide +kernel) (fun H locs hP hD hS => ?_)
  have hP : va_P D vwCl [(h0, .inr (1, [.ref q7, .int 0, .ref q20, .int 0, .int 0])), (q7, .inl (cI, 30, .inl fun _ => (0 : Int32))), (q20, .inl (cI, 12, .inl fun _ => (0 : Int32)))] H := hP
  have hD : va_D A [(h0, .inr (1, [.ref q7, .int 0, .ref q20, .int 0, .int 0])), (q7, .inl (cI, 30, .inl fun _ => (0 : Int32))), (q20, .inl (cI, 12, .inl fun _ => (0 : Int32)))] := hD
  refine lv_aload_n hx hb (show decode cX1_init 30 = .ok (.aload_n 0, 1) from by decide +kernel) rfl (lv_at hl 0 rfl) ?_
  refine lv_iconst (v := (-1)) hx hb (show decode cX1_init 31 = .ok (.iconst (-1), 1) from by decide +kernel) (by decide) ?_
  refine va_put (D := D) (ci := 1) (v := .int (-1)) (ty := tyX1 4) (C := RX1) (T := TX1) (N := 5) hx hb hts wsok_X1 tyX1 tyX1_ok nmX1 hown hK hP hD hS 0 rfl rfl 4 (by decide) (hts _ wd_1_94) (fun _ h9 => h9) rfl (by decide +kernel) rfl rfl (Nat.le_of_ble_eq_true rfl) (show decode cX1_init 32 = .ok (.putfield 25, 3) from by decide +kernel) (fun H locs hP hD hS => ?_)
  have hP : va_P D vwCl [(h0, .inr (1, [.ref q7, .int 0, .ref q20, .int 0, .int (-1)])), (q7, .inl (cI, 30, .inl fun _ => (0 : Int32))), (q20, .inl (cI, 12, .inl fun _ => (0 : Int32)))] H := hP
  have hD : va_D A [(h0, .inr (1, [.ref q7, .int 0, .ref q20, .int 0, .int (-1)])), (q7, .inl (cI, 30, .inl fun _ => (0 : Int32))), (q20, .inl (cI, 12, .inl fun _ => (0 : Int32)))] := hD
  refine W.widen (k := 2) (n := 42) (Nat.le_of_ble_eq_true rfl) (Nat.le_of_ble_eq_true rfl) ?_
  exact W.vret hx hb hr (fun t ht hW => ⟨⟨fun k => [q7, q20].getD k 0, rfl, True.intro, by rw [ht]; exact hP, hD⟩, hS.F ht⟩) hS.2.2 (show decode cX1_init 35 = .ok (.return_, 1) from by decide +kernel) hlocks
abbrev wc_X2_init (cI cJ cD : ClassId) (h0 : Nat) (u : Nat → Nat) : va_W := [(h0, .inr (2, [.ref (u 0), .ref (u 1), .int 0, .int 0, .int 0])), ((u 0), .inl (cI, 2768, .inl fun _ => (0 : Int32))), ((u 1), .inl (cI, 346, .inl fun _ => (0 : Int32)))]
def mc_X2_init : Room := { frames := 1, cells := 2, slots := 3114, locals := 12 }
set_option maxHeartbeats 4000000 in
set_option maxRecDepth 100000 in
theorem c_X2_init {l : Launch} (D : va_G) (cI cJ cD : ClassId) (h0 sz : Nat) : Met l yX2_init (Cond.code yX2_init cX2_init 1 none :: pvTb) mc_X2_init (va_Pc [.ref h0] (fun U => U.heap.size = sz ∧ va_P D vwCl [(h0, .inr (2, [.null, .null, .int 0, .int 0, .int 0]))] U.heap ∧ va_K D vwCl (pvTy cI cJ cD) U ∧ va_D (fun _ => True) [(h0, .inr (2, [.null, .null, .int 0, .int 0, .int 0]))])) (va_Qv (fun _ : Nat → Nat => True) (fun u t => va_P D vwCl (wc_X2_init cI cJ cD h0 u) t.heap ∧ va_D (va_A [(h0, .inr (2, [.null, .null, .int 0, .int 0, .int 0]))] sz) (wc_X2_init cI cJ cD h0 u)) (va_A [(h0, .inr (2, [.null, .null, .int 0, .int 0, .int 0]))] sz)) 2 3114 (va_A [(h0, .inr (2, [.null, .null, .int 0, .int 0, .int 0]))] sz) := by
  refine Met.ofW (cc := cX2_init) (maxL := 1) (ret := none) plX2 rfl ?_
  intro p e s m args below meth c s₁ B hml hv
  obtain ⟨rfl, hsz, hP, hK, hD0⟩ := hv
  have hx := B.exec
  have hb := B.bytes
  have hr := B.returns
  have hts0 := atoms_spec (ws := Cond.code yX2_init cX2_init 1 none :: pvTb) B.pre
  have hts : ∀ w ∈ pvTb, w.before #[Value.ref h0] s = true := fun w hw => hts0 w (List.mem_cons_of_mem _ hw)
  have hown : s.vm.findClass RX2 = some m.cls := findClass_of_methodNamed B.named
  have hlocks := B.notSynchronized
  have hin : meth.name = "<init>" := (name_of_methodNamed B.named B.method).1
  subst hsz
  have hD := hD0.self (sz := s.heap.size)
  generalize hAe : va_A [(h0, .inr (2, [.null, .null, .int 0, .int 0, .int 0]))] s.heap.size = A at hD ⊢
  have hA : ∀ q : Nat, s.heap.size ≤ q → A q := fun q h => by rw [← hAe]; exact Or.inr h
  have hS : va_S A s.heap s.heap [] := va_S.rf
  have hl := lv_entry ([.ref h0]) (n := 1) (Nat.le_of_ble_eq_true rfl)
  rw [lg_entry_eq]
  generalize (lg_sl ([.ref h0]) ++ List.replicate (1 - (lg_sl ([.ref h0])).length) Slot.unset).toArray = ls at hl ⊢
  have hl : lv_has ls 1 [(0, .ref h0)] := hl
  refine lv_aload_n hx hb (show decode cX2_init 0 = .ok (.aload_n 0, 1) from by decide +kernel) rfl (lv_at hl 0 rfl) ?_
  refine W.objInit hx hb hown (hts _ wd_1_187) (hts _ wd_1_36) (hts _ wd_1_37) rfl (by rw [hml]; exact hl.1) rfl (show decode cX2_init 1 = .ok (.invokespecial 5, 3) from by decide +kernel) (Nat.le_of_ble_eq_true rfl) (Nat.le_of_ble_eq_true rfl) ?_
  refine W.eq (g2 := F0 m 4 ls []) rfl ?_
  refine lv_aload_n hx hb (show decode cX2_init 4 = .ok (.aload_n 0, 1) from by decide +kernel) rfl (lv_at hl 0 rfl) ?_
  refine lv_sipush (v := 2768) hx hb (show decode cX2_init 5 = .ok (.sipush 2768, 3) from by decide +kernel) (by decide) ?_
  refine pv_newa (atype := .int) (ty := .int) (N' := 2768) (a0 := (2768, .inl fun _ => (0 : Int32))) hx hb (hts _ wd_1_48) rfl hK (j := 0) rfl hP hD hS hA (fun _ => rfl) (by decide) (by decide) (by decide) (by first | exact Nat.le_of_ble_eq_true rfl | omega) (by first | exact Nat.le_of_ble_eq_true rfl | omega) (show decode cX2_init 8 = .ok (.newarray .int, 2) from by decide +kernel) (fun q8 H hP hD hS => ?_)
  have hP : va_P D vwCl [(h0, .inr (2, [.null, .null, .int 0, .int 0, .int 0])), (q8, .inl (cI, 2768, .inl fun _ => (0 : Int32)))] H := hP
  have hD : va_D A [(h0, .inr (2, [.null, .null, .int 0, .int 0, .int 0])), (q8, .inl (cI, 2768, .inl fun _ => (0 : Int32)))] := hD
  refine va_putF (D := D) (ci := 2) (v := .ref q8) (ty := tyX2 0) (C := RX2) (T := TX2) (N := 5) hx hb hts wsok_X2 tyX2 tyX2_ok nmX2 hown hK hP hD hS 0 rfl rfl 0 (by decide) (hts _ wd_1_188) (fun _ h9 => h9) rfl hin rfl (by decide +kernel) rfl rfl (Nat.le_of_ble_eq_true rfl) (show decode cX2_init 10 = .ok (.putfield 13, 3) from by decide +kernel) (fun H locs hP hD hS => ?_)
  have hP : va_P D vwCl [(h0, .inr (2, [.ref q8, .null, .int 0, .int 0, .int 0])), (q8, .inl (cI, 2768, .inl fun _ => (0 : Int32)))] H := hP
  have hD : va_D A [(h0, .inr (2, [.ref q8, .null, .int 0, .int 0, .int 0])), (q8, .inl (cI, 2768, .inl fun _ => (0 : Int32)))] := hD
  refine lv_aload_n hx hb (show decode cX2_init 13 = .ok (.aload_n 0, 1) from by decide +kernel) rfl (lv_at hl 0 rfl) ?_
  refine lv_sipush (v := 346) hx hb (show decode cX2_init 14 = .ok (.sipush 346, 3) from by decide +kernel) (by decide) ?_
  refine pv_newa (atype := .int) (ty := .int) (N' := 346) (a0 := (346, .inl fun _ => (0 : Int32))) hx hb (hts _ wd_1_48) rfl hK (j := 0) rfl hP hD hS hA (fun _ => rfl) (by decide) (by decide) (by decide) (by first | exact Nat.le_of_ble_eq_true rfl | omega) (by first | exact Nat.le_of_ble_eq_true rfl | omega) (show decode cX2_init 17 = .ok (.newarray .int, 2) from by decide +kernel) (fun q17 H hP hD hS => ?_)
  have hP : va_P D vwCl [(h0, .inr (2, [.ref q8, .null, .int 0, .int 0, .int 0])), (q8, .inl (cI, 2768, .inl fun _ => (0 : Int32))), (q17, .inl (cI, 346, .inl fun _ => (0 : Int32)))] H := hP
  have hD : va_D A [(h0, .inr (2, [.ref q8, .null, .int 0, .int 0, .int 0])), (q8, .inl (cI, 2768, .inl fun _ => (0 : Int32))), (q17, .inl (cI, 346, .inl fun _ => (0 : Int32)))] := hD
  refine va_putF (D := D) (ci := 2) (v := .ref q17) (ty := tyX2 1) (C := RX2) (T := TX2) (N := 5) hx hb hts wsok_X2 tyX2 tyX2_ok nmX2 hown hK hP hD hS 0 rfl rfl 1 (by decide) (hts _ wd_1_189) (fun _ h9 => h9) rfl hin rfl (by decide +kernel) rfl rfl (Nat.le_of_ble_eq_true rfl) (show decode cX2_init 19 = .ok (.putfield 17, 3) from by decide +kernel) (fun H locs hP hD hS => ?_)
  have hP : va_P D vwCl [(h0, .inr (2, [.ref q8, .ref q17, .int 0, .int 0, .int 0])), (q8, .inl (cI, 2768, .inl fun _ => (0 : Int32))), (q17, .inl (cI, 346, .inl fun _ => (0 : Int32)))] H := hP
  have hD : va_D A [(h0, .inr (2, [.ref q8, .ref q17, .int 0, .int 0, .int 0])), (q8, .inl (cI, 2768, .inl fun _ => (0 : Int32))), (q17, .inl (cI, 346, .inl fun _ => (0 : Int32)))] := hD
  refine lv_aload_n hx hb (show decode cX2_init 22 = .ok (.aload_n 0, 1) from by decide +kernel) rfl (lv_at hl 0 rfl) ?_
  refine lv_iconst (v := 0) hx hb (show decode cX2_init 23 = .ok (.iconst 0, 1) from by decide +kernel) (by decide) ?_
  refine va_put (D := D) (ci := 2) (v := .int 0) (ty := tyX2 2) (C := RX2) (T := TX2) (N := 5) hx hb hts wsok_X2 tyX2 tyX2_ok nmX2 hown hK hP hD hS 0 rfl rfl 2 (by decide) (hts _ wd_1_190) (fun _ h9 => h9) rfl (by decide +kernel) rfl rfl (Nat.le_of_ble_eq_true rfl) (show decode cX2_init 24 = .ok (.putfield 20, 3) from by decide +kernel) (fun H locs hP hD hS => ?_)
  have hP : va_P D vwCl [(h0, .inr (2, [.ref q8, .ref q17, .int 0, .int 0, .int 0])), (q8, .inl (cI, 2768, .inl fun _ => (0 : Int32))), (q17, .inl (cI, 346, .inl fun _ => (0 : Int32)))] H := hP
  have hD : va_D A [(h0, .inr (2, [.ref q8, .ref q17, .int 0, .int 0, .int 0])), (q8, .inl (cI, 2768, .inl fun _ => (0 : Int32))), (q17, .inl (cI, 346, .inl fun _ => (0 : Int32)))] := hD
  refine lv_aload_n hx hb (show decode cX2_init 27 = .ok (.aload_n 0, 1) from by decide +kernel) rfl (lv_at hl 0 rfl) ?_
  refine lv_iconst (v := 0) hx hb (show decode cX2_init 28 = .ok (.iconst 0, 1) from by decide +kernel) (by decide) ?_
  refine va_put (D := D) (ci := 2) (v := .int 0) (ty := tyX2 3) (C := RX2) (T := TX2) (N := 5) hx hb hts wsok_X2 tyX2 tyX2_ok nmX2 hown hK hP hD hS 0 rfl rfl 3 (by decide) (hts _ wd_1_191) (fun _ h9 => h9) rfl (by decide +kernel) rfl rfl (Nat.le_of_ble_eq_true rfl) (show decode cX2_init 29 = .ok (.putfield 24, 3) from by decide +kernel) (fun H locs hP hD hS => ?_)
  have hP : va_P D vwCl [(h0, .inr (2, [.ref q8, .ref q17, .int 0, .int 0, .int 0])), (q8, .inl (cI, 2768, .inl fun _ => (0 : Int32))), (q17, .inl (cI, 346, .inl fun _ => (0 : Int32)))] H := hP
  have hD : va_D A [(h0, .inr (2, [.ref q8, .ref q17, .int 0, .int 0, .int 0])), (q8, .inl (cI, 2768, .inl fun _ => (0 : Int32))), (q17, .inl (cI, 346, .inl fun _ => (0 : Int32)))] := hD
  refine lv_aload_n hx hb (show decode cX2_init 32 = .ok (.aload_n 0, 1) from by decide +kernel) rfl (lv_at hl 0 rfl) ?_
  refine lv_iconst (v := 0) hx hb (show decode cX2_init 33 = .ok (.iconst 0, 1) from by decide +kernel) (by decide) ?_
  refine va_put (D := D) (ci := 2) (v := .int 0) (ty := tyX2 4) (C := RX2) (T := TX2) (N := 5) hx hb hts wsok_X2 tyX2 tyX2_ok nmX2 hown hK hP hD hS 0 rfl rfl 4 (by decide) (hts _ wd_1_192) (fun _ h9 => h9) rfl (by decide +kernel) rfl rfl (Nat.le_of_ble_eq_true rfl) (show decode cX2_init 34 = .ok (.putfield 27, 3) from by decide +kernel) (fun H locs hP hD hS => ?_)
  have hP : va_P D vwCl [(h0, .inr (2, [.ref q8, .ref q17, .int 0, .int 0, .int 0])), (q8, .inl (cI, 2768, .inl fun _ => (0 : Int32))), (q17, .inl (cI, 346, .inl fun _ => (0 : Int32)))] H := hP
  have hD : va_D A [(h0, .inr (2, [.ref q8, .ref q17, .int 0, .int 0, .int 0])), (q8, .inl (cI, 2768, .inl fun _ => (0 : Int32))), (q17, .inl (cI, 346, .inl fun _ => (0 : Int32)))] := hD
  refine W.widen (k := 2) (n := 3114) (Nat.le_of_ble_eq_true rfl) (Nat.le_of_ble_eq_true rfl) ?_
  exact W.vret hx hb hr (fun t ht hW => ⟨⟨fun k => [q8, q17].getD k 0, rfl, True.intro, by rw [ht]; exact hP, hD⟩, hS.F ht⟩) hS.2.2 (show decode cX2_init 37 = .ok (.return_, 1) from by decide +kernel) hlocks
abbrev wc_X3_init (cI cJ cD : ClassId) (h0 : Nat) (u : Nat → Nat) : va_W := [(h0, .inr (3, [.ref (u 0), .ref (u 1), .ref (u 2), .int 0, .int 0, .int 0, .int 0])), ((u 0), .inl (cI, 648, .inl fun _ => (0 : Int32))), ((u 1), .inl (cI, 16, .inl fun _ => (0 : Int32))), ((u 2), .inl (cI, 16, .inl fun _ => (0 : Int32)))]
def mc_X3_init : Room := { frames := 1, cells := 3, slots := 680, locals := 12 }
set_option maxHeartbeats 4000000 in
set_option maxRecDepth 100000 in
theorem c_X3_init {l : Launch} (D : va_G) (cI cJ cD : ClassId) (h0 sz : Nat) : Met l yX3_init (Cond.code yX3_init cX3_init 1 none :: pvTb) mc_X3_init (va_Pc [.ref h0] (fun U => U.heap.size = sz ∧ va_P D vwCl [(h0, .inr (3, [.null, .null, .null, .int 0, .int 0, .int 0, .int 0]))] U.heap ∧ va_K D vwCl (pvTy cI cJ cD) U ∧ va_D (fun _ => True) [(h0, .inr (3, [.null, .null, .null, .int 0, .int 0, .int 0, .int 0]))])) (va_Qv (fun _ : Nat → Nat => True) (fun u t => va_P D vwCl (wc_X3_init cI cJ cD h0 u) t.heap ∧ va_D (va_A [(h0, .inr (3, [.null, .null, .null, .int 0, .int 0, .int 0, .int 0]))] sz) (wc_X3_init cI cJ cD h0 u)) (va_A [(h0, .inr (3, [.null, .null, .null, .int 0, .int 0, .int 0, .int 0]))] sz)) 3 680 (va_A [(h0, .inr (3, [.null, .null, .null, .int 0, .int 0, .int 0, .int 0]))] sz) := by
  refine Met.ofW (cc := cX3_init) (maxL := 1) (ret := none) plX3 rfl ?_
  intro p e s m args below meth c s₁ B hml hv
  obtain ⟨rfl, hsz, hP, hK, hD0⟩ := hv
  have hx := B.exec
  have hb := B.bytes
  have hr := B.returns
  have hts0 := atoms_spec (ws := Cond.code yX3_init cX3_init 1 none :: pvTb) B.pre
  have hts : ∀ w ∈ pvTb, w.before #[Value.ref h0] s = true := fun w hw => hts0 w (List.mem_cons_of_mem _ hw)
  have hown : s.vm.findClass RX3 = some m.cls := findClass_of_methodNamed B.named
  have hlocks := B.notSynchronized
  have hin : meth.name = "<init>" := (name_of_methodNamed B.named B.method).1
  subst hsz
  have hD := hD0.self (sz := s.heap.size)
  generalize hAe : va_A [(h0, .inr (3, [.null, .null, .null, .int 0, .int 0, .int 0, .int 0]))] s.heap.size = A at hD ⊢
  have hA : ∀ q : Nat, s.heap.size ≤ q → A q := fun q h => by rw [← hAe]; exact Or.inr h
  have hS : va_S A s.heap s.heap [] := va_S.rf
  have hl := lv_entry ([.ref h0]) (n := 1) (Nat.le_of_ble_eq_true rfl)
  rw [lg_entry_eq]
  generalize (lg_sl ([.ref h0]) ++ List.replicate (1 - (lg_sl ([.ref h0])).length) Slot.unset).toArray = ls at hl ⊢
  have hl : lv_has ls 1 [(0, .ref h0)] := hl
  refine lv_aload_n hx hb (show decode cX3_init 0 = .ok (.aload_n 0, 1) from by decide +kernel) rfl (lv_at hl 0 rfl) ?_
  refine W.objInit hx hb hown (hts _ wd_1_54) (hts _ wd_1_36) (hts _ wd_1_37) rfl (by rw [hml]; exact hl.1) rfl (show decode cX3_init 1 = .ok (.invokespecial 3, 3) from by decide +kernel) (Nat.le_of_ble_eq_true rfl) (Nat.le_of_ble_eq_true rfl) ?_
  refine W.eq (g2 := F0 m 4 ls []) rfl ?_
  refine lv_aload_n hx hb (show decode cX3_init 4 = .ok (.aload_n 0, 1) from by decide +kernel) rfl (lv_at hl 0 rfl) ?_
  refine lv_sipush (v := 648) hx hb (show decode cX3_init 5 = .ok (.sipush 648, 3) from by decide +kernel) (by decide) ?_
  refine pv_newa (atype := .int) (ty := .int) (N' := 648) (a0 := (648, .inl fun _ => (0 : Int32))) hx hb (hts _ wd_1_48) rfl hK (j := 0) rfl hP hD hS hA (fun _ => rfl) (by decide) (by decide) (by decide) (by first | exact Nat.le_of_ble_eq_true rfl | omega) (by first | exact Nat.le_of_ble_eq_true rfl | omega) (show decode cX3_init 8 = .ok (.newarray .int, 2) from by decide +kernel) (fun q8 H hP hD hS => ?_)
  have hP : va_P D vwCl [(h0, .inr (3, [.null, .null, .null, .int 0, .int 0, .int 0, .int 0])), (q8, .inl (cI, 648, .inl fun _ => (0 : Int32)))] H := hP
  have hD : va_D A [(h0, .inr (3, [.null, .null, .null, .int 0, .int 0, .int 0, .int 0])), (q8, .inl (cI, 648, .inl fun _ => (0 : Int32)))] := hD
  refine va_putF (D := D) (ci := 3) (v := .ref q8) (ty := tyX3 0) (C := RX3) (T := TX3) (N := 7) hx hb hts wsok_X3 tyX3 tyX3_ok nmX3 hown hK hP hD hS 0 rfl rfl 0 (by decide) (hts _ wd_1_55) (fun _ h9 => h9) rfl hin rfl (by decide +kernel) rfl rfl (Nat.le_of_ble_eq_true rfl) (show decode cX3_init 10 = .ok (.putfield 11, 3) from by decide +kernel) (fun H locs hP hD hS => ?_)
  have hP : va_P D vwCl [(h0, .inr (3, [.ref q8, .null, .null, .int 0, .int 0, .int 0, .int 0])), (q8, .inl (cI, 648, .inl fun _ => (0 : Int32)))] H := hP
  have hD : va_D A [(h0, .inr (3, [.ref q8, .null, .null, .int 0, .int 0, .int 0, .int 0])), (q8, .inl (cI, 648, .inl fun _ => (0 : Int32)))] := hD
  refine lv_aload_n hx hb (show decode cX3_init 13 = .ok (.aload_n 0, 1) from by decide +kernel) rfl (lv_at hl 0 rfl) ?_
  refine lv_bipush (v := 16) hx hb (show decode cX3_init 14 = .ok (.bipush 16, 2) from by decide +kernel) (by decide) ?_
  refine pv_newa (atype := .int) (ty := .int) (N' := 16) (a0 := (16, .inl fun _ => (0 : Int32))) hx hb (hts _ wd_1_48) rfl hK (j := 0) rfl hP hD hS hA (fun _ => rfl) (by decide) (by decide) (by decide) (by first | exact Nat.le_of_ble_eq_true rfl | omega) (by first | exact Nat.le_of_ble_eq_true rfl | omega) (show decode cX3_init 16 = .ok (.newarray .int, 2) from by decide +kernel) (fun q16 H hP hD hS => ?_)
  have hP : va_P D vwCl [(h0, .inr (3, [.ref q8, .null, .null, .int 0, .int 0, .int 0, .int 0])), (q8, .inl (cI, 648, .inl fun _ => (0 : Int32))), (q16, .inl (cI, 16, .inl fun _ => (0 : Int32)))] H := hP
  have hD : va_D A [(h0, .inr (3, [.ref q8, .null, .null, .int 0, .int 0, .int 0, .int 0])), (q8, .inl (cI, 648, .inl fun _ => (0 : Int32))), (q16, .inl (cI, 16, .inl fun _ => (0 : Int32)))] := hD
  refine va_putF (D := D) (ci := 3) (v := .ref q16) (ty := tyX3 1) (C := RX3) (T := TX3) (N := 7) hx hb hts wsok_X3 tyX3 tyX3_ok nmX3 hown hK hP hD hS 0 rfl rfl 1 (by decide) (hts _ wd_1_56) (fun _ h9 => h9) rfl hin rfl (by decide +kernel) rfl rfl (Nat.le_of_ble_eq_true rfl) (show decode cX3_init 18 = .ok (.putfield 17, 3) from by decide +kernel) (fun H locs hP hD hS => ?_)
  have hP : va_P D vwCl [(h0, .inr (3, [.ref q8, .ref q16, .null, .int 0, .int 0, .int 0, .int 0])), (q8, .inl (cI, 648, .inl fun _ => (0 : Int32))), (q16, .inl (cI, 16, .inl fun _ => (0 : Int32)))] H := hP
  have hD : va_D A [(h0, .inr (3, [.ref q8, .ref q16, .null, .int 0, .int 0, .int 0, .int 0])), (q8, .inl (cI, 648, .inl fun _ => (0 : Int32))), (q16, .inl (cI, 16, .inl fun _ => (0 : Int32)))] := hD
  refine lv_aload_n hx hb (show decode cX3_init 21 = .ok (.aload_n 0, 1) from by decide +kernel) rfl (lv_at hl 0 rfl) ?_
  refine lv_bipush (v := 16) hx hb (show decode cX3_init 22 = .ok (.bipush 16, 2) from by decide +kernel) (by decide) ?_
  refine pv_newa (atype := .int) (ty := .int) (N' := 16) (a0 := (16, .inl fun _ => (0 : Int32))) hx hb (hts _ wd_1_48) rfl hK (j := 0) rfl hP hD hS hA (fun _ => rfl) (by decide) (by decide) (by decide) (by first | exact Nat.le_of_ble_eq_true rfl | omega) (by first | exact Nat.le_of_ble_eq_true rfl | omega) (show decode cX3_init 24 = .ok (.newarray .int, 2) from by decide +kernel) (fun q24 H hP hD hS => ?_)
  have hP : va_P D vwCl [(h0, .inr (3, [.ref q8, .ref q16, .null, .int 0, .int 0, .int 0, .int 0])), (q8, .inl (cI, 648, .inl fun _ => (0 : Int32))), (q16, .inl (cI, 16, .inl fun _ => (0 : Int32))), (q24, .inl (cI, 16, .inl fun _ => (0 : Int32)))] H := hP
  have hD : va_D A [(h0, .inr (3, [.ref q8, .ref q16, .null, .int 0, .int 0, .int 0, .int 0])), (q8, .inl (cI, 648, .inl fun _ => (0 : Int32))), (q16, .inl (cI, 16, .inl fun _ => (0 : Int32))), (q24, .inl (cI, 16, .inl fun _ => (0 : Int32)))] := hD
  refine va_putF (D := D) (ci := 3) (v := .ref q24) (ty := tyX3 2) (C := RX3) (T := TX3) (N := 7) hx hb hts wsok_X3 tyX3 tyX3_ok nmX3 hown hK hP hD hS 0 rfl rfl 2 (by decide) (hts _ wd_1_57) (fun _ h9 => h9) rfl hin rfl (by decide +kernel) rfl rfl (Nat.le_of_ble_eq_true rfl) (show decode cX3_init 26 = .ok (.putfield 20, 3) from by decide +kernel) (fun H locs hP hD hS => ?_)
  have hP : va_P D vwCl [(h0, .inr (3, [.ref q8, .ref q16, .ref q24, .int 0, .int 0, .int 0, .int 0])), (q8, .inl (cI, 648, .inl fun _ => (0 : Int32))), (q16, .inl (cI, 16, .inl fun _ => (0 : Int32))), (q24, .inl (cI, 16, .inl fun _ => (0 : Int32)))] H := hP
  have hD : va_D A [(h0, .inr (3, [.ref q8, .ref q16, .ref q24, .int 0, .int 0, .int 0, .int 0])), (q8, .inl (cI, 648, .inl fun _ => (0 : Int32))), (q16, .inl (cI, 16, .inl fun _ => (0 : Int32))), (q24, .inl (cI, 16, .inl fun _ => (0 : Int32)))] := hD
  refine lv_aload_n hx hb (show decode cX3_init 29 = .ok (.aload_n 0, 1) from by decide +kernel) rfl (lv_at hl 0 rfl) ?_
  refine lv_iconst (v := 0) hx hb (show decode cX3_init 30 = .ok (.iconst 0, 1) from by decide +kernel) (by decide) ?_
  refine va_put (D := D) (ci := 3) (v := .int 0) (ty := tyX3 3) (C := RX3) (T := TX3) (N := 7) hx hb hts wsok_X3 tyX3 tyX3_ok nmX3 hown hK hP hD hS 0 rfl rfl 3 (by decide) (hts _ wd_1_58) (fun _ h9 => h9) rfl (by decide +kernel) rfl rfl (Nat.le_of_ble_eq_true rfl) (show decode cX3_init 31 = .ok (.putfield 23, 3) from by decide +kernel) (fun H locs hP hD hS => ?_)
  have hP : va_P D vwCl [(h0, .inr (3, [.ref q8, .ref q16, .ref q24, .int 0, .int 0, .int 0, .int 0])), (q8, .inl (cI, 648, .inl fun _ => (0 : Int32))), (q16, .inl (cI, 16, .inl fun _ => (0 : Int32))), (q24, .inl (cI, 16, .inl fun _ => (0 : Int32)))] H := hP
  have hD : va_D A [(h0, .inr (3, [.ref q8, .ref q16, .ref q24, .int 0, .int 0, .int 0, .int 0])), (q8, .inl (cI, 648, .inl fun _ => (0 : Int32))), (q16, .inl (cI, 16, .inl fun _ => (0 : Int32))), (q24, .inl (cI, 16, .inl fun _ => (0 : Int32)))] := hD
  refine lv_aload_n hx hb (show decode cX3_init 34 = .ok (.aload_n 0, 1) from by decide +kernel) rfl (lv_at hl 0 rfl) ?_
  refine lv_iconst (v := 0) hx hb (show decode cX3_init 35 = .ok (.iconst 0, 1) from by decide +kernel) (by decide) ?_
  refine va_put (D := D) (ci := 3) (v := .int 0) (ty := tyX3 4) (C := RX3) (T := TX3) (N := 7) hx hb hts wsok_X3 tyX3 tyX3_ok nmX3 hown hK hP hD hS 0 rfl rfl 4 (by decide) (hts _ wd_1_60) (fun _ h9 => h9) rfl (by decide +kernel) rfl rfl (Nat.le_of_ble_eq_true rfl) (show decode cX3_init 36 = .ok (.putfield 27, 3) from by decide +kernel) (fun H locs hP hD hS => ?_)
  have hP : va_P D vwCl [(h0, .inr (3, [.ref q8, .ref q16, .ref q24, .int 0, .int 0, .int 0, .int 0])), (q8, .inl (cI, 648, .inl fun _ => (0 : Int32))), (q16, .inl (cI, 16, .inl fun _ => (0 : Int32))), (q24, .inl (cI, 16, .inl fun _ => (0 : Int32)))] H := hP
  have hD : va_D A [(h0, .inr (3, [.ref q8, .ref q16, .ref q24, .int 0, .int 0, .int 0, .int 0])), (q8, .inl (cI, 648, .inl fun _ => (0 : Int32))), (q16, .inl (cI, 16, .inl fun _ => (0 : Int32))), (q24, .inl (cI, 16, .inl fun _ => (0 : Int32)))] := hD
  refine lv_aload_n hx hb (show decode cX3_init 39 = .ok (.aload_n 0, 1) from by decide +kernel) rfl (lv_at hl 0 rfl) ?_
  refine lv_iconst (v := 0) hx hb (show decode cX3_init 40 = .ok (.iconst 0, 1) from by decide +kernel) (by decide) ?_
  refine va_put (D := D) (ci := 3) (v := .int 0) (ty := tyX3 5) (C := RX3) (T := TX3) (N := 7) hx hb hts wsok_X3 tyX3 tyX3_ok nmX3 hown hK hP hD hS 0 rfl rfl 5 (by decide) (hts _ wd_1_63) (fun _ h9 => h9) rfl (by decide +kernel) rfl rfl (Nat.le_of_ble_eq_true rfl) (show decode cX3_init 41 = .ok (.putfield 30, 3) from by decide +kernel) (fun H locs hP hD hS => ?_)
  have hP : va_P D vwCl [(h0, .inr (3, [.ref q8, .ref q16, .ref q24, .int 0, .int 0, .int 0, .int 0])), (q8, .inl (cI, 648, .inl fun _ => (0 : Int32))), (q16, .inl (cI, 16, .inl fun _ => (0 : Int32))), (q24, .inl (cI, 16, .inl fun _ => (0 : Int32)))] H := hP
  have hD : va_D A [(h0, .inr (3, [.ref q8, .ref q16, .ref q24, .int 0, .int 0, .int 0, .int 0])), (q8, .inl (cI, 648, .inl fun _ => (0 : Int32))), (q16, .inl (cI, 16, .inl fun _ => (0 : Int32))), (q24, .inl (cI, 16, .inl fun _ => (0 : Int32)))] := hD
  refine lv_aload_n hx hb (show decode cX3_init 44 = .ok (.aload_n 0, 1) from by decide +kernel) rfl (lv_at hl 0 rfl) ?_
  refine lv_iconst (v := 0) hx hb (show decode cX3_init 45 = .ok (.iconst 0, 1) from by decide +kernel) (by decide) ?_
  refine va_put (D := D) (ci := 3) (v := .int 0) (ty := tyX3 6) (C := RX3) (T := TX3) (N := 7) hx hb hts wsok_X3 tyX3 tyX3_ok nmX3 hown hK hP hD hS 0 rfl rfl 6 (by decide) (hts _ wd_1_66) (fun _ h9 => h9) rfl (by decide +kernel) rfl rfl (Nat.le_of_ble_eq_true rfl) (show decode cX3_init 46 = .ok (.putfield 33, 3) from by decide +kernel) (fun H locs hP hD hS => ?_)
  have hP : va_P D vwCl [(h0, .inr (3, [.ref q8, .ref q16, .ref q24, .int 0, .int 0, .int 0, .int 0])), (q8, .inl (cI, 648, .inl fun _ => (0 : Int32))), (q16, .inl (cI, 16, .inl fun _ => (0 : Int32))), (q24, .inl (cI, 16, .inl fun _ => (0 : Int32)))] H := hP
  have hD : va_D A [(h0, .inr (3, [.ref q8, .ref q16, .ref q24, .int 0, .int 0, .int 0, .int 0])), (q8, .inl (cI, 648, .inl fun _ => (0 : Int32))), (q16, .inl (cI, 16, .inl fun _ => (0 : Int32))), (q24, .inl (cI, 16, .inl fun _ => (0 : Int32)))] := hD
  refine W.widen (k := 3) (n := 680) (Nat.le_of_ble_eq_true rfl) (Nat.le_of_ble_eq_true rfl) ?_
  exact W.vret hx hb hr (fun t ht hW => ⟨⟨fun k => [q8, q16, q24].getD k 0, rfl, True.intro, by rw [ht]; exact hP, hD⟩, hS.F ht⟩) hS.2.2 (show decode cX3_init 49 = .ok (.return_, 1) from by decide +kernel) hlocks
abbrev wc_X4_init (cI cJ cD : ClassId) (h0 : Nat) (u : Nat → Nat) : va_W := [(h0, .inr (4, [.ref (u 0), .ref (u 1), .ref (u 2)])), ((u 0), .inl (cJ, 4, .inr (.inl fun _ => (0 : Int64)))), ((u 1), .inl (cJ, 4, .inr (.inl fun _ => (0 : Int64)))), ((u 2), .inl (cI, 11, .inl fun _ => (0 : Int32)))]
def mc_X4_init : Room := { frames := 1, cells := 3, slots := 19, locals := 12 }
set_option maxHeartbeats 4000000 in
set_option maxRecDepth 100000 in
theorem c_X4_init {l : Launch} (D : va_G) (cI cJ cD : ClassId) (h0 sz : Nat) : Met l yX4_init (Cond.code yX4_init cX4_init 1 none :: pvTb) mc_X4_init (va_Pc [.ref h0] (fun U => U.heap.size = sz ∧ va_P D vwCl [(h0, .inr (4, [.null, .null, .null]))] U.heap ∧ va_K D vwCl (pvTy cI cJ cD) U ∧ va_D (fun _ => True) [(h0, .inr (4, [.null, .null, .null]))])) (va_Qv (fun _ : Nat → Nat => True) (fun u t => va_P D vwCl (wc_X4_init cI cJ cD h0 u) t.heap ∧ va_D (va_A [(h0, .inr (4, [.null, .null, .null]))] sz) (wc_X4_init cI cJ cD h0 u)) (va_A [(h0, .inr (4, [.null, .null, .null]))] sz)) 3 19 (va_A [(h0, .inr (4, [.null, .null, .null]))] sz) := by
  refine Met.ofW (cc := cX4_init) (maxL := 1) (ret := none) plX4 rfl ?_
  intro p e s m args below meth c s₁ B hml hv
  obtain ⟨rfl, hsz, hP, hK, hD0⟩ := hv
  have hx := B.exec
  have hb := B.bytes
  have hr := B.returns
  have hts0 := atoms_spec (ws := Cond.code yX4_init cX4_init 1 none :: pvTb) B.pre
  have hts : ∀ w ∈ pvTb, w.before #[Value.ref h0] s = true := fun w hw => hts0 w (List.mem_cons_of_mem _ hw)
  have hown : s.vm.findClass RX4 = some m.cls := findClass_of_methodNamed B.named
  have hlocks := B.notSynchronized
  have hin : meth.name = "<init>" := (name_of_methodNamed B.named B.method).1
  subst hsz
  have hD := hD0.self (sz := s.heap.size)
  generalize hAe : va_A [(h0, .inr (4, [.null, .null, .null]))] s.heap.size = A at hD ⊢
  have hA : ∀ q : Nat, s.heap.size ≤ q → A q := fun q h => by rw [← hAe]; exact Or.inr h
  have hS : va_S A s.heap s.heap [] := va_S.rf
  have hl := lv_entry ([.ref h0]) (n := 1) (Nat.le_of_ble_eq_true rfl)
  rw [lg_entry_eq]
  generalize (lg_sl ([.ref h0]) ++ List.replicate (1 - (lg_sl ([.ref h0])).length) Slot.unset).toArray = ls at hl ⊢
  have hl : lv_has ls 1 [(0, .ref h0)] := hl
  refine lv_aload_n hx hb (show decode cX4_init 0 = .ok (.aload_n 0, 1) from by decide +kernel) rfl (lv_at hl 0 rfl) ?_
  refine W.objInit hx hb hown (hts _ wd_1_135) (hts _ wd_1_36) (hts _ wd_1_37) rfl (by rw [hml]; exact hl.1) rfl (show decode cX4_init 1 = .ok (.invokespecial 3, 3) from by decide +kernel) (Nat.le_of_ble_eq_true rfl) (Nat.le_of_ble_eq_true rfl) ?_
  refine W.eq (g2 := F0 m 4 ls []) rfl ?_
  refine lv_aload_n hx hb (show decode cX4_init 4 = .ok (.aload_n 0, 1) from by decide +kernel) rfl (lv_at hl 0 rfl) ?_
  refine lv_iconst (v := 4) hx hb (show decode cX4_init 5 = .ok (.iconst 4, 1) from by decide +kernel) (by decide) ?_
  refine pv_newa (atype := .long) (ty := .long) (N' := 4) (a0 := (4, .inr (.inl fun _ => (0 : Int64)))) hx hb (hts _ wd_1_146) rfl hK (j := 1) rfl hP hD hS hA (fun _ => rfl) (by decide) (by decide) (by decide) (by first | exact Nat.le_of_ble_eq_true rfl | omega) (by first | exact Nat.le_of_ble_eq_true rfl | omega) (show decode cX4_init 6 = .ok (.newarray .long, 2) from by decide +kernel) (fun q6 H hP hD hS => ?_)
  have hP : va_P D vwCl [(h0, .inr (4, [.null, .null, .null])), (q6, .inl (cJ, 4, .inr (.inl fun _ => (0 : Int64))))] H := hP
  have hD : va_D A [(h0, .inr (4, [.null, .null, .null])), (q6, .inl (cJ, 4, .inr (.inl fun _ => (0 : Int64))))] := hD
  refine va_putF (D := D) (ci := 4) (v := .ref q6) (ty := tyX4 0) (C := RX4) (T := TX4) (N := 3) hx hb hts wsok_X4 tyX4 tyX4_ok nmX4 hown hK hP hD hS 0 rfl rfl 0 (by decide) (hts _ wd_1_136) (fun _ h9 => h9) rfl hin rfl (by decide +kernel) rfl rfl (Nat.le_of_ble_eq_true rfl) (show decode cX4_init 8 = .ok (.putfield 9, 3) from by decide +kernel) (fun H locs hP hD hS => ?_)
  have hP : va_P D vwCl [(h0, .inr (4, [.ref q6, .null, .null])), (q6, .inl (cJ, 4, .inr (.inl fun _ => (0 : Int64))))] H := hP
  have hD : va_D A [(h0, .inr (4, [.ref q6, .null, .null])), (q6, .inl (cJ, 4, .inr (.inl fun _ => (0 : Int64))))] := hD
  refine lv_aload_n hx hb (show decode cX4_init 11 = .ok (.aload_n 0, 1) from by decide +kernel) rfl (lv_at hl 0 rfl) ?_
  refine lv_iconst (v := 4) hx hb (show decode cX4_init 12 = .ok (.iconst 4, 1) from by decide +kernel) (by decide) ?_
  refine pv_newa (atype := .long) (ty := .long) (N' := 4) (a0 := (4, .inr (.inl fun _ => (0 : Int64)))) hx hb (hts _ wd_1_146) rfl hK (j := 1) rfl hP hD hS hA (fun _ => rfl) (by decide) (by decide) (by decide) (by first | exact Nat.le_of_ble_eq_true rfl | omega) (by first | exact Nat.le_of_ble_eq_true rfl | omega) (show decode cX4_init 13 = .ok (.newarray .long, 2) from by decide +kernel) (fun q13 H hP hD hS => ?_)
  have hP : va_P D vwCl [(h0, .inr (4, [.ref q6, .null, .null])), (q6, .inl (cJ, 4, .inr (.inl fun _ => (0 : Int64)))), (q13, .inl (cJ, 4, .inr (.inl fun _ => (0 : Int64))))] H := hP
  have hD : va_D A [(h0, .inr (4, [.ref q6, .null, .null])), (q6, .inl (cJ, 4, .inr (.inl fun _ => (0 : Int64)))), (q13, .inl (cJ, 4, .inr (.inl fun _ => (0 : Int64))))] := hD
  refine va_putF (D := D) (ci := 4) (v := .ref q13) (ty := tyX4 1) (C := RX4) (T := TX4) (N := 3) hx hb hts wsok_X4 tyX4 tyX4_ok nmX4 hown hK hP hD hS 0 rfl rfl 1 (by decide) (hts _ wd_1_137) (fun _ h9 => h9) rfl hin rfl (by decide +kernel) rfl rfl (Nat.le_of_ble_eq_true rfl) (show decode cX4_init 15 = .ok (.putfield 15, 3) from by decide +kernel) (fun H locs hP hD hS => ?_)
  have hP : va_P D vwCl [(h0, .inr (4, [.ref q6, .ref q13, .null])), (q6, .inl (cJ, 4, .inr (.inl fun _ => (0 : Int64)))), (q13, .inl (cJ, 4, .inr (.inl fun _ => (0 : Int64))))] H := hP
  have hD : va_D A [(h0, .inr (4, [.ref q6, .ref q13, .null])), (q6, .inl (cJ, 4, .inr (.inl fun _ => (0 : Int64)))), (q13, .inl (cJ, 4, .inr (.inl fun _ => (0 : Int64))))] := hD
  refine lv_aload_n hx hb (show decode cX4_init 18 = .ok (.aload_n 0, 1) from by decide +kernel) rfl (lv_at hl 0 rfl) ?_
  refine lv_bipush (v := 11) hx hb (show decode cX4_init 19 = .ok (.bipush 11, 2) from by decide +kernel) (by decide) ?_
  refine pv_newa (atype := .int) (ty := .int) (N' := 11) (a0 := (11, .inl fun _ => (0 : Int32))) hx hb (hts _ wd_1_48) rfl hK (j := 0) rfl hP hD hS hA (fun _ => rfl) (by decide) (by decide) (by decide) (by first | exact Nat.le_of_ble_eq_true rfl | omega) (by first | exact Nat.le_of_ble_eq_true rfl | omega) (show decode cX4_init 21 = .ok (.newarray .int, 2) from by decide +kernel) (fun q21 H hP hD hS => ?_)
  have hP : va_P D vwCl [(h0, .inr (4, [.ref q6, .ref q13, .null])), (q6, .inl (cJ, 4, .inr (.inl fun _ => (0 : Int64)))), (q13, .inl (cJ, 4, .inr (.inl fun _ => (0 : Int64)))), (q21, .inl (cI, 11, .inl fun _ => (0 : Int32)))] H := hP
  have hD : va_D A [(h0, .inr (4, [.ref q6, .ref q13, .null])), (q6, .inl (cJ, 4, .inr (.inl fun _ => (0 : Int64)))), (q13, .inl (cJ, 4, .inr (.inl fun _ => (0 : Int64)))), (q21, .inl (cI, 11, .inl fun _ => (0 : Int32)))] := hD
  refine va_putF (D := D) (ci := 4) (v := .ref q21) (ty := tyX4 2) (C := RX4) (T := TX4) (N := 3) hx hb hts wsok_X4 tyX4 tyX4_ok nmX4 hown hK hP hD hS 0 rfl rfl 2 (by decide) (hts _ wd_1_138) (fun _ h9 => h9) rfl hin rfl (by decide +kernel) rfl rfl (Nat.le_of_ble_eq_true rfl) (show decode cX4_init 23 = .ok (.putfield 18, 3) from by decide +kernel) (fun H locs hP hD hS => ?_)
  have hP : va_P D vwCl [(h0, .inr (4, [.ref q6, .ref q13, .ref q21])), (q6, .inl (cJ, 4, .inr (.inl fun _ => (0 : Int64)))), (q13, .inl (cJ, 4, .inr (.inl fun _ => (0 : Int64)))), (q21, .inl (cI, 11, .inl fun _ => (0 : Int32)))] H := hP
  have hD : va_D A [(h0, .inr (4, [.ref q6, .ref q13, .ref q21])), (q6, .inl (cJ, 4, .inr (.inl fun _ => (0 : Int64)))), (q13, .inl (cJ, 4, .inr (.inl fun _ => (0 : Int64)))), (q21, .inl (cI, 11, .inl fun _ => (0 : Int32)))] := hD
  refine W.widen (k := 3) (n := 19) (Nat.le_of_ble_eq_true rfl) (Nat.le_of_ble_eq_true rfl) ?_
  exact W.vret hx hb hr (fun t ht hW => ⟨⟨fun k => [q6, q13, q21].getD k 0, rfl, True.intro, by rw [ht]; exact hP, hD⟩, hS.F ht⟩) hS.2.2 (show decode cX4_init 26 = .ok (.return_, 1) from by decide +kernel) hlocks
abbrev wc_X5_init (cI cJ cD : ClassId) (h0 : Nat) (u : Nat → Nat) : va_W := [(h0, .inr (5, [.ref (u 0), .ref (u 1), .ref (u 2), .ref (u 3), .int 0])), ((u 0), .inl (cI, 23552, .inl fun _ => (0 : Int32))), ((u 1), .inl (cI, 23552, .inl fun _ => (0 : Int32))), ((u 2), .inl (cI, 23552, .inl fun _ => (0 : Int32))), ((u 3), .inl (cI, 12, .inl fun _ => (0 : Int32)))]
def mc_X5_init : Room := { frames := 1, cells := 4, slots := 70668, locals := 12 }
set_option maxHeartbeats 4000000 in
set_option maxRecDepth 100000 in
theorem c_X5_init {l : Launch} (D : va_G) (cI cJ cD : ClassId) (h0 sz : Nat) : Met l yX5_init (Cond.code yX5_init cX5_init 1 none :: pvTb) mc_X5_init (va_Pc [.ref h0] (fun U => U.heap.size = sz ∧ va_P D vwCl [(h0, .inr (5, [.null, .null, .null, .null, .int 0]))] U.heap ∧ va_K D vwCl (pvTy cI cJ cD) U ∧ va_D (fun _ => True) [(h0, .inr (5, [.null, .null, .null, .null, .int 0]))])) (va_Qv (fun _ : Nat → Nat => True) (fun u t => va_P D vwCl (wc_X5_init cI cJ cD h0 u) t.heap ∧ va_D (va_A [(h0, .inr (5, [.null, .null, .null, .null, .int 0]))] sz) (wc_X5_init cI cJ cD h0 u)) (va_A [(h0, .inr (5, [.null, .null, .null, .null, .int 0]))] sz)) 4 70668 (va_A [(h0, .inr (5, [.null, .null, .null, .null, .int 0]))] sz) := by
  refine Met.ofW (cc := cX5_init) (maxL := 1) (ret := none) plX5 rfl ?_
  intro p e s m args below meth c s₁ B hml hv
  obtain ⟨rfl, hsz, hP, hK, hD0⟩ := hv
  have hx := B.exec
  have hb := B.bytes
  have hr := B.returns
  have hts0 := atoms_spec (ws := Cond.code yX5_init cX5_init 1 none :: pvTb) B.pre
  have hts : ∀ w ∈ pvTb, w.before #[Value.ref h0] s = true := fun w hw => hts0 w (List.mem_cons_of_mem _ hw)
  have hown : s.vm.findClass RX5 = some m.cls := findClass_of_methodNamed B.named
  have hlocks := B.notSynchronized
  have hin : meth.name = "<init>" := (name_of_methodNamed B.named B.method).1
  subst hsz
  have hD := hD0.self (sz := s.heap.size)
  generalize hAe : va_A [(h0, .inr (5, [.null, .null, .null, .null, .int 0]))] s.heap.size = A at hD ⊢
  have hA : ∀ q : Nat, s.heap.size ≤ q → A q := fun q h => by rw [← hAe]; exact Or.inr h
  have hS : va_S A s.heap s.heap [] := va_S.rf
  have hl := lv_entry ([.ref h0]) (n := 1) (Nat.le_of_ble_eq_true rfl)
  rw [lg_entry_eq]
  generalize (lg_sl ([.ref h0]) ++ List.replicate (1 - (lg_sl ([.ref h0])).length) Slot.unset).toArray = ls at hl ⊢
  have hl : lv_has ls 1 [(0, .ref h0)] := hl
  refine lv_aload_n hx hb (show decode cX5_init 0 = .ok (.aload_n 0, 1) from by decide +kernel) rfl (lv_at hl 0 rfl) ?_
  refine W.objInit hx hb hown (hts _ wd_1_152) (hts _ wd_1_36) (hts _ wd_1_37) rfl (by rw [hml]; exact hl.1) rfl (show decode cX5_init 1 = .ok (.invokespecial 3, 3) from by decide +kernel) (Nat.le_of_ble_eq_true rfl) (Nat.le_of_ble_eq_true rfl) ?_
  refine W.eq (g2 := F0 m 4 ls []) rfl ?_
  refine lv_aload_n hx hb (show decode cX5_init 4 = .ok (.aload_n 0, 1) from by decide +kernel) rfl (lv_at hl 0 rfl) ?_
  refine lv_sipush (v := 23552) hx hb (show decode cX5_init 5 = .ok (.sipush 23552, 3) from by decide +kernel) (by decide) ?_
  refine pv_newa (atype := .int) (ty := .int) (N' := 23552) (a0 := (23552, .inl fun _ => (0 : Int32))) hx hb (hts _ wd_1_48) rfl hK (j := 0) rfl hP hD hS hA (fun _ => rfl) (by decide) (by decide) (by decide) (by first | exact Nat.le_of_ble_eq_true rfl | omega) (by first | exact Nat.le_of_ble_eq_true rfl | omega) (show decode cX5_init 8 = .ok (.newarray .int, 2) from by decide +kernel) (fun q8 H hP hD hS => ?_)
  have hP : va_P D vwCl [(h0, .inr (5, [.null, .null, .null, .null, .int 0])), (q8, .inl (cI, 23552, .inl fun _ => (0 : Int32)))] H := hP
  have hD : va_D A [(h0, .inr (5, [.null, .null, .null, .null, .int 0])), (q8, .inl (cI, 23552, .inl fun _ => (0 : Int32)))] := hD
  refine va_putF (D := D) (ci := 5) (v := .ref q8) (ty := tyX5 0) (C := RX5) (T := TX5) (N := 5) hx hb hts wsok_X5 tyX5 tyX5_ok nmX5 hown hK hP hD hS 0 rfl rfl 0 (by decide) (hts _ wd_1_153) (fun _ h9 => h9) rfl hin rfl (by decide +kernel) rfl rfl (Nat.le_of_ble_eq_true rfl) (show decode cX5_init 10 = .ok (.putfield 11, 3) from by decide +kernel) (fun H locs hP hD hS => ?_)
  have hP : va_P D vwCl [(h0, .inr (5, [.ref q8, .null, .null, .null, .int 0])), (q8, .inl (cI, 23552, .inl fun _ => (0 : Int32)))] H := hP
  have hD : va_D A [(h0, .inr (5, [.ref q8, .null, .null, .null, .int 0])), (q8, .inl (cI, 23552, .inl fun _ => (0 : Int32)))] := hD
  refine lv_aload_n hx hb (show decode cX5_init 13 = .ok (.aload_n 0, 1) from by decide +kernel) rfl (lv_at hl 0 rfl) ?_
  refine lv_sipush (v := 23552) hx hb (show decode cX5_init 14 = .ok (.sipush 23552, 3) from by decide +kernel) (by decide) ?_
  refine pv_newa (atype := .int) (ty := .int) (N' := 23552) (a0 := (23552, .inl fun _ => (0 : Int32))) hx hb (hts _ wd_1_48) rfl hK (j := 0) rfl hP hD hS hA (fun _ => rfl) (by decide) (by decide) (by decide) (by first | exact Nat.le_of_ble_eq_true rfl | omega) (by first | exact Nat.le_of_ble_eq_true rfl | omega) (show decode cX5_init 17 = .ok (.newarray .int, 2) from by decide +kernel) (fun q17 H hP hD hS => ?_)
  have hP : va_P D vwCl [(h0, .inr (5, [.ref q8, .null, .null, .null, .int 0])), (q8, .inl (cI, 23552, .inl fun _ => (0 : Int32))), (q17, .inl (cI, 23552, .inl fun _ => (0 : Int32)))] H := hP
  have hD : va_D A [(h0, .inr (5, [.ref q8, .null, .null, .null, .int 0])), (q8, .inl (cI, 23552, .inl fun _ => (0 : Int32))), (q17, .inl (cI, 23552, .inl fun _ => (0 : Int32)))] := hD
  refine va_putF (D := D) (ci := 5) (v := .ref q17) (ty := tyX5 1) (C := RX5) (T := TX5) (N := 5) hx hb hts wsok_X5 tyX5 tyX5_ok nmX5 hown hK hP hD hS 0 rfl rfl 1 (by decide) (hts _ wd_1_154) (fun _ h9 => h9) rfl hin rfl (by decide +kernel) rfl rfl (Nat.le_of_ble_eq_true rfl) (show decode cX5_init 19 = .ok (.putfield 15, 3) from by decide +kernel) (fun H locs hP hD hS => ?_)
  have hP : va_P D vwCl [(h0, .inr (5, [.ref q8, .ref q17, .null, .null, .int 0])), (q8, .inl (cI, 23552, .inl fun _ => (0 : Int32))), (q17, .inl (cI, 23552, .inl fun _ => (0 : Int32)))] H := hP
  have hD : va_D A [(h0, .inr (5, [.ref q8, .ref q17, .null, .null, .int 0])), (q8, .inl (cI, 23552, .inl fun _ => (0 : Int32))), (q17, .inl (cI, 23552, .inl fun _ => (0 : Int32)))] := hD
  refine lv_aload_n hx hb (show decode cX5_init 22 = .ok (.aload_n 0, 1) from by decide +kernel) rfl (lv_at hl 0 rfl) ?_
  refine lv_sipush (v := 23552) hx hb (show decode cX5_init 23 = .ok (.sipush 23552, 3) from by decide +kernel) (by decide) ?_
  refine pv_newa (atype := .int) (ty := .int) (N' := 23552) (a0 := (23552, .inl fun _ => (0 : Int32))) hx hb (hts _ wd_1_48) rfl hK (j := 0) rfl hP hD hS hA (fun _ => rfl) (by decide) (by decide) (by decide) (by first | exact Nat.le_of_ble_eq_true rfl | omega) (by first | exact Nat.le_of_ble_eq_true rfl | omega) (show decode cX5_init 26 = .ok (.newarray .int, 2) from by decide +kernel) (fun q26 H hP hD hS => ?_)
  have hP : va_P D vwCl [(h0, .inr (5, [.ref q8, .ref q17, .null, .null, .int 0])), (q8, .inl (cI, 23552, .inl fun _ => (0 : Int32))), (q17, .inl (cI, 23552, .inl fun _ => (0 : Int32))), (q26, .inl (cI, 23552, .inl fun _ => (0 : Int32)))] H := hP
  have hD : va_D A [(h0, .inr (5, [.ref q8, .ref q17, .null, .null, .int 0])), (q8, .inl (cI, 23552, .inl fun _ => (0 : Int32))), (q17, .inl (cI, 23552, .inl fun _ => (0 : Int32))), (q26, .inl (cI, 23552, .inl fun _ => (0 : Int32)))] := hD
  refine va_putF (D := D) (ci := 5) (v := .ref q26) (ty := tyX5 2) (C := RX5) (T := TX5) (N := 5) hx hb hts wsok_X5 tyX5 tyX5_ok nmX5 hown hK hP hD hS 0 rfl rfl 2 (by decide) (hts _ wd_1_155) (fun _ h9 => h9) rfl hin rfl (by decide +kernel) rfl rfl (Nat.le_of_ble_eq_true rfl) (show decode cX5_init 28 = .ok (.putfield 18, 3) from by decide +kernel) (fun H locs hP hD hS => ?_)
  have hP : va_P D vwCl [(h0, .inr (5, [.ref q8, .ref q17, .ref q26, .null, .int 0])), (q8, .inl (cI, 23552, .inl fun _ => (0 : Int32))), (q17, .inl (cI, 23552, .inl fun _ => (0 : Int32))), (q26, .inl (cI, 23552, .inl fun _ => (0 : Int32)))] H := hP
  have hD : va_D A [(h0, .inr (5, [.ref q8, .ref q17, .ref q26, .null, .int 0])), (q8, .inl (cI, 23552, .inl fun _ => (0 : Int32))), (q17, .inl (cI, 23552, .inl fun _ => (0 : Int32))), (q26, .inl (cI, 23552, .inl fun _ => (0 : Int32)))] := hD
  refine lv_aload_n hx hb (show decode cX5_init 31 = .ok (.aload_n 0, 1) from by decide +kernel) rfl (lv_at hl 0 rfl) ?_
  refine lv_bipush (v := 12) hx hb (show decode cX5_init 32 = .ok (.bipush 12, 2) from by decide +kernel) (by decide) ?_
  refine pv_newa (atype := .int) (ty := .int) (N' := 12) (a0 := (12, .inl fun _ => (0 : Int32))) hx hb (hts _ wd_1_48) rfl hK (j := 0) rfl hP hD hS hA (fun _ => rfl) (by decide) (by decide) (by decide) (by first | exact Nat.le_of_ble_eq_true rfl | omega) (by first | exact Nat.le_of_ble_eq_true rfl | omega) (show decode cX5_init 34 = .ok (.newarray .int, 2) from by decide +kernel) (fun q34 H hP hD hS => ?_)
  have hP : va_P D vwCl [(h0, .inr (5, [.ref q8, .ref q17, .ref q26, .null, .int 0])), (q8, .inl (cI, 23552, .inl fun _ => (0 : Int32))), (q17, .inl (cI, 23552, .inl fun _ => (0 : Int32))), (q26, .inl (cI, 23552, .inl fun _ => (0 : Int32))), (q34, .inl (cI, 12, .inl fun _ => (0 : Int32)))] H := hP
  have hD : va_D A [(h0, .inr (5, [.ref q8, .ref q17, .ref q26, .null, .int 0])), (q8, .inl (cI, 23552, .inl fun _ => (0 : Int32))), (q17, .inl (cI, 23552, .inl fun _ => (0 : Int32))), (q26, .inl (cI, 23552, .inl fun _ => (0 : Int32))), (q34, .inl (cI, 12, .inl fun _ => (0 : Int32)))] := hD
  refine va_putF (D := D) (ci := 5) (v := .ref q34) (ty := tyX5 3) (C := RX5) (T := TX5) (N := 5) hx hb hts wsok_X5 tyX5 tyX5_ok nmX5 hown hK hP hD hS 0 rfl rfl 3 (by decide) (hts _ wd_1_156) (fun _ h9 => h9) rfl hin rfl (by decide +kernel) rfl rfl (Nat.le_of_ble_eq_true rfl) (show decode cX5_init 36 = .ok (.putfield 21, 3) from by decide +kernel) (fun H locs hP hD hS => ?_)
  have hP : va_P D vwCl [(h0, .inr (5, [.ref q8, .ref q17, .ref q26, .ref q34, .int 0])), (q8, .inl (cI, 23552, .inl fun _ => (0 : Int32))), (q17, .inl (cI, 23552, .inl fun _ => (0 : Int32))), (q26, .inl (cI, 23552, .inl fun _ => (0 : Int32))), (q34, .inl (cI, 12, .inl fun _ => (0 : Int32)))] H := hP
  have hD : va_D A [(h0, .inr (5, [.ref q8, .ref q17, .ref q26, .ref q34, .int 0])), (q8, .inl (cI, 23552, .inl fun _ => (0 : Int32))), (q17, .inl (cI, 23552, .inl fun _ => (0 : Int32))), (q26, .inl (cI, 23552, .inl fun _ => (0 : Int32))), (q34, .inl (cI, 12, .inl fun _ => (0 : Int32)))] := hD
  refine lv_aload_n hx hb (show decode cX5_init 39 = .ok (.aload_n 0, 1) from by decide +kernel) rfl (lv_at hl 0 rfl) ?_
  refine lv_iconst (v := 0) hx hb (show decode cX5_init 40 = .ok (.iconst 0, 1) from by decide +kernel) (by decide) ?_
  refine va_put (D := D) (ci := 5) (v := .int 0) (ty := tyX5 4) (C := RX5) (T := TX5) (N := 5) hx hb hts wsok_X5 tyX5 tyX5_ok nmX5 hown hK hP hD hS 0 rfl rfl 4 (by decide) (hts _ wd_1_157) (fun _ h9 => h9) rfl (by decide +kernel) rfl rfl (Nat.le_of_ble_eq_true rfl) (show decode cX5_init 41 = .ok (.putfield 24, 3) from by decide +kernel) (fun H locs hP hD hS => ?_)
  have hP : va_P D vwCl [(h0, .inr (5, [.ref q8, .ref q17, .ref q26, .ref q34, .int 0])), (q8, .inl (cI, 23552, .inl fun _ => (0 : Int32))), (q17, .inl (cI, 23552, .inl fun _ => (0 : Int32))), (q26, .inl (cI, 23552, .inl fun _ => (0 : Int32))), (q34, .inl (cI, 12, .inl fun _ => (0 : Int32)))] H := hP
  have hD : va_D A [(h0, .inr (5, [.ref q8, .ref q17, .ref q26, .ref q34, .int 0])), (q8, .inl (cI, 23552, .inl fun _ => (0 : Int32))), (q17, .inl (cI, 23552, .inl fun _ => (0 : Int32))), (q26, .inl (cI, 23552, .inl fun _ => (0 : Int32))), (q34, .inl (cI, 12, .inl fun _ => (0 : Int32)))] := hD
  refine W.widen (k := 4) (n := 70668) (Nat.le_of_ble_eq_true rfl) (Nat.le_of_ble_eq_true rfl) ?_
  exact W.vret hx hb hr (fun t ht hW => ⟨⟨fun k => [q8, q17, q26, q34].getD k 0, rfl, True.intro, by rw [ht]; exact hP, hD⟩, hS.F ht⟩) hS.2.2 (show decode cX5_init 44 = .ok (.return_, 1) from by decide +kernel) hlocks
abbrev wc_X6_init (cI cJ cD : ClassId) (h0 : Nat) (u : Nat → Nat) : va_W := [(h0, .inr (6, [.ref (u 0), .ref (u 1), .ref (u 2), .int 215, .int 0])), ((u 0), .inl (cI, 10, .inl fun _ => (0 : Int32))), ((u 1), .inl (cI, 10, .inl fun _ => (0 : Int32))), ((u 2), .inl (cI, 10, .inl fun _ => (0 : Int32)))]
def mc_X6_init : Room := { frames := 1, cells := 3, slots := 30, locals := 12 }
set_option maxHeartbeats 4000000 in
set_option maxRecDepth 100000 in
theorem c_X6_init {l : Launch} (D : va_G) (cI cJ cD : ClassId) (h0 sz : Nat) : Met l yX6_init (Cond.code yX6_init cX6_init 1 none :: pvTb) mc_X6_init (va_Pc [.ref h0] (fun U => U.heap.size = sz ∧ va_P D vwCl [(h0, .inr (6, [.null, .null, .null, .int 0, .int 0]))] U.heap ∧ va_K D vwCl (pvTy cI cJ cD) U ∧ va_D (fun _ => True) [(h0, .inr (6, [.null, .null, .null, .int 0, .int 0]))])) (va_Qv (fun _ : Nat → Nat => True) (fun u t => va_P D vwCl (wc_X6_init cI cJ cD h0 u) t.heap ∧ va_D (va_A [(h0, .inr (6, [.null, .null, .null, .int 0, .int 0]))] sz) (wc_X6_init cI cJ cD h0 u)) (va_A [(h0, .inr (6, [.null, .null, .null, .int 0, .int 0]))] sz)) 3 30 (va_A [(h0, .inr (6, [.null, .null, .null, .int 0, .int 0]))] sz) := by
  refine Met.ofW (cc := cX6_init) (maxL := 1) (ret := none) plX6 rfl ?_
  intro p e s m args below meth c s₁ B hml hv
  obtain ⟨rfl, hsz, hP, hK, hD0⟩ := hv
  have hx := B.exec
  have hb := B.bytes
  have hr := B.returns
  have hts0 := atoms_spec (ws := Cond.code yX6_init cX6_init 1 none :: pvTb) B.pre
  have hts : ∀ w ∈ pvTb, w.before #[Value.ref h0] s = true := fun w hw => hts0 w (List.mem_cons_of_mem _ hw)
  have hown : s.vm.findClass RX6 = some m.cls := findClass_of_methodNamed B.named
  have hlocks := B.notSynchronized
  have hin : meth.name = "<init>" := (name_of_methodNamed B.named B.method).1
  subst hsz
  have hD := hD0.self (sz := s.heap.size)
  generalize hAe : va_A [(h0, .inr (6, [.null, .null, .null, .int 0, .int 0]))] s.heap.size = A at hD ⊢
  have hA : ∀ q : Nat, s.heap.size ≤ q → A q := fun q h => by rw [← hAe]; exact Or.inr h
  have hS : va_S A s.heap s.heap [] := va_S.rf
  have hl := lv_entry ([.ref h0]) (n := 1) (Nat.le_of_ble_eq_true rfl)
  rw [lg_entry_eq]
  generalize (lg_sl ([.ref h0]) ++ List.replicate (1 - (lg_sl ([.ref h0])).length) Slot.unset).toArray = ls at hl ⊢
  have hl : lv_has ls 1 [(0, .ref h0)] := hl
  refine lv_aload_n hx hb (show decode cX6_init 0 = .ok (.aload_n 0, 1) from by decide +kernel) rfl (lv_at hl 0 rfl) ?_
  refine W.objInit hx hb hown (hts _ wd_1_112) (hts _ wd_1_36) (hts _ wd_1_37) rfl (by rw [hml]; exact hl.1) rfl (show decode cX6_init 1 = .ok (.invokespecial 3, 3) from by decide +kernel) (Nat.le_of_ble_eq_true rfl) (Nat.le_of_ble_eq_true rfl) ?_
  refine W.eq (g2 := F0 m 4 ls []) rfl ?_
  refine lv_aload_n hx hb (show decode cX6_init 4 = .ok (.aload_n 0, 1) from by decide +kernel) rfl (lv_at hl 0 rfl) ?_
  refine lv_bipush (v := 10) hx hb (show decode cX6_init 5 = .ok (.bipush 10, 2) from by decide +kernel) (by decide) ?_
  refine pv_newa (atype := .int) (ty := .int) (N' := 10) (a0 := (10, .inl fun _ => (0 : Int32))) hx hb (hts _ wd_1_48) rfl hK (j := 0) rfl hP hD hS hA (fun _ => rfl) (by decide) (by decide) (by decide) (by first | exact Nat.le_of_ble_eq_true rfl | omega) (by first | exact Nat.le_of_ble_eq_true rfl | omega) (show decode cX6_init 7 = .ok (.newarray .int, 2) from by decide +kernel) (fun q7 H hP hD hS => ?_)
  have hP : va_P D vwCl [(h0, .inr (6, [.null, .null, .null, .int 0, .int 0])), (q7, .inl (cI, 10, .inl fun _ => (0 : Int32)))] H := hP
  have hD : va_D A [(h0, .inr (6, [.null, .null, .null, .int 0, .int 0])), (q7, .inl (cI, 10, .inl fun _ => (0 : Int32)))] := hD
  refine va_putF (D := D) (ci := 6) (v := .ref q7) (ty := tyX6 0) (C := RX6) (T := TX6) (N := 5) hx hb hts wsok_X6 tyX6 tyX6_ok nmX6 hown hK hP hD hS 0 rfl rfl 0 (by decide) (hts _ wd_1_113) (fun _ h9 => h9) rfl hin rfl (by decide +kernel) rfl rfl (Nat.le_of_ble_eq_true rfl) (show decode cX6_init 9 = .ok (.putfield 9, 3) from by decide +kernel) (fun H locs hP hD hS => ?_)
  have hP : va_P D vwCl [(h0, .inr (6, [.ref q7, .null, .null, .int 0, .int 0])), (q7, .inl (cI, 10, .inl fun _ => (0 : Int32)))] H := hP
  have hD : va_D A [(h0, .inr (6, [.ref q7, .null, .null, .int 0, .int 0])), (q7, .inl (cI, 10, .inl fun _ => (0 : Int32)))] := hD
  refine lv_aload_n hx hb (show decode cX6_init 12 = .ok (.aload_n 0, 1) from by decide +kernel) rfl (lv_at hl 0 rfl) ?_
  refine lv_bipush (v := 10) hx hb (show decode cX6_init 13 = .ok (.bipush 10, 2) from by decide +kernel) (by decide) ?_
  refine pv_newa (atype := .int) (ty := .int) (N' := 10) (a0 := (10, .inl fun _ => (0 : Int32))) hx hb (hts _ wd_1_48) rfl hK (j := 0) rfl hP hD hS hA (fun _ => rfl) (by decide) (by decide) (by decide) (by first | exact Nat.le_of_ble_eq_true rfl | omega) (by first | exact Nat.le_of_ble_eq_true rfl | omega) (show decode cX6_init 15 = .ok (.newarray .int, 2) from by decide +kernel) (fun q15 H hP hD hS => ?_)
  have hP : va_P D vwCl [(h0, .inr (6, [.ref q7, .null, .null, .int 0, .int 0])), (q7, .inl (cI, 10, .inl fun _ => (0 : Int32))), (q15, .inl (cI, 10, .inl fun _ => (0 : Int32)))] H := hP
  have hD : va_D A [(h0, .inr (6, [.ref q7, .null, .null, .int 0, .int 0])), (q7, .inl (cI, 10, .inl fun _ => (0 : Int32))), (q15, .inl (cI, 10, .inl fun _ => (0 : Int32)))] := hD
  refine va_putF (D := D) (ci := 6) (v := .ref q15) (ty := tyX6 1) (C := RX6) (T := TX6) (N := 5) hx hb hts wsok_X6 tyX6 tyX6_ok nmX6 hown hK hP hD hS 0 rfl rfl 1 (by decide) (hts _ wd_1_114) (fun _ h9 => h9) rfl hin rfl (by decide +kernel) rfl rfl (Nat.le_of_ble_eq_true rfl) (show decode cX6_init 17 = .ok (.putfield 15, 3) from by decide +kernel) (fun H locs hP hD hS => ?_)
  have hP : va_P D vwCl [(h0, .inr (6, [.ref q7, .ref q15, .null, .int 0, .int 0])), (q7, .inl (cI, 10, .inl fun _ => (0 : Int32))), (q15, .inl (cI, 10, .inl fun _ => (0 : Int32)))] H := hP
  have hD : va_D A [(h0, .inr (6, [.ref q7, .ref q15, .null, .int 0, .int 0])), (q7, .inl (cI, 10, .inl fun _ => (0 : Int32))), (q15, .inl (cI, 10, .inl fun _ => (0 : Int32)))] := hD
  refine lv_aload_n hx hb (show decode cX6_init 20 = .ok (.aload_n 0, 1) from by decide +kernel) rfl (lv_at hl 0 rfl) ?_
  refine lv_bipush (v := 10) hx hb (show decode cX6_init 21 = .ok (.bipush 10, 2) from by decide +kernel) (by decide) ?_
  refine pv_newa (atype := .int) (ty := .int) (N' := 10) (a0 := (10, .inl fun _ => (0 : Int32))) hx hb (hts _ wd_1_48) rfl hK (j := 0) rfl hP hD hS hA (fun _ => rfl) (by decide) (by decide) (by decide) (by first | exact Nat.le_of_ble_eq_true rfl | omega) (by first | exact Nat.le_of_ble_eq_true rfl | omega) (show decode cX6_init 23 = .ok (.newarray .int, 2) from by decide +kernel) (fun q23 H hP hD hS => ?_)
  have hP : va_P D vwCl [(h0, .inr (6, [.ref q7, .ref q15, .null, .int 0, .int 0])), (q7, .inl (cI, 10, .inl fun _ => (0 : Int32))), (q15, .inl (cI, 10, .inl fun _ => (0 : Int32))), (q23, .inl (cI, 10, .inl fun _ => (0 : Int32)))] H := hP
  have hD : va_D A [(h0, .inr (6, [.ref q7, .ref q15, .null, .int 0, .int 0])), (q7, .inl (cI, 10, .inl fun _ => (0 : Int32))), (q15, .inl (cI, 10, .inl fun _ => (0 : Int32))), (q23, .inl (cI, 10, .inl fun _ => (0 : Int32)))] := hD
  refine va_putF (D := D) (ci := 6) (v := .ref q23) (ty := tyX6 2) (C := RX6) (T := TX6) (N := 5) hx hb hts wsok_X6 tyX6 tyX6_ok nmX6 hown hK hP hD hS 0 rfl rfl 2 (by decide) (hts _ wd_1_115) (fun _ h9 => h9) rfl hin rfl (by decide +kernel) rfl rfl (Nat.le_of_ble_eq_true rfl) (show decode cX6_init 25 = .ok (.putfield 18, 3) from by decide +kernel) (fun H locs hP hD hS => ?_)
  have hP : va_P D vwCl [(h0, .inr (6, [.ref q7, .ref q15, .ref q23, .int 0, .int 0])), (q7, .inl (cI, 10, .inl fun _ => (0 : Int32))), (q15, .inl (cI, 10, .inl fun _ => (0 : Int32))), (q23, .inl (cI, 10, .inl fun _ => (0 : Int32)))] H := hP
  have hD : va_D A [(h0, .inr (6, [.ref q7, .ref q15, .ref q23, .int 0, .int 0])), (q7, .inl (cI, 10, .inl fun _ => (0 : Int32))), (q15, .inl (cI, 10, .inl fun _ => (0 : Int32))), (q23, .inl (cI, 10, .inl fun _ => (0 : Int32)))] := hD
  refine lv_aload_n hx hb (show decode cX6_init 28 = .ok (.aload_n 0, 1) from by decide +kernel) rfl (lv_at hl 0 rfl) ?_
  refine lv_sipush (v := 215) hx hb (show decode cX6_init 29 = .ok (.sipush 215, 3) from by decide +kernel) (by decide) ?_
  refine va_put (D := D) (ci := 6) (v := .int 215) (ty := tyX6 3) (C := RX6) (T := TX6) (N := 5) hx hb hts wsok_X6 tyX6 tyX6_ok nmX6 hown hK hP hD hS 0 rfl rfl 3 (by decide) (hts _ wd_1_116) (fun _ h9 => h9) rfl (by decide +kernel) rfl rfl (Nat.le_of_ble_eq_true rfl) (show decode cX6_init 32 = .ok (.putfield 23, 3) from by decide +kernel) (fun H locs hP hD hS => ?_)
  have hP : va_P D vwCl [(h0, .inr (6, [.ref q7, .ref q15, .ref q23, .int 215, .int 0])), (q7, .inl (cI, 10, .inl fun _ => (0 : Int32))), (q15, .inl (cI, 10, .inl fun _ => (0 : Int32))), (q23, .inl (cI, 10, .inl fun _ => (0 : Int32)))] H := hP
  have hD : va_D A [(h0, .inr (6, [.ref q7, .ref q15, .ref q23, .int 215, .int 0])), (q7, .inl (cI, 10, .inl fun _ => (0 : Int32))), (q15, .inl (cI, 10, .inl fun _ => (0 : Int32))), (q23, .inl (cI, 10, .inl fun _ => (0 : Int32)))] := hD
  refine lv_aload_n hx hb (show decode cX6_init 35 = .ok (.aload_n 0, 1) from by decide +kernel) rfl (lv_at hl 0 rfl) ?_
  refine lv_iconst (v := 0) hx hb (show decode cX6_init 36 = .ok (.iconst 0, 1) from by decide +kernel) (by decide) ?_
  refine va_put (D := D) (ci := 6) (v := .int 0) (ty := tyX6 4) (C := RX6) (T := TX6) (N := 5) hx hb hts wsok_X6 tyX6 tyX6_ok nmX6 hown hK hP hD hS 0 rfl rfl 4 (by decide) (hts _ wd_1_117) (fun _ h9 => h9) rfl (by decide +kernel) rfl rfl (Nat.le_of_ble_eq_true rfl) (show decode cX6_init 37 = .ok (.putfield 27, 3) from by decide +kernel) (fun H locs hP hD hS => ?_)
  have hP : va_P D vwCl [(h0, .inr (6, [.ref q7, .ref q15, .ref q23, .int 215, .int 0])), (q7, .inl (cI, 10, .inl fun _ => (0 : Int32))), (q15, .inl (cI, 10, .inl fun _ => (0 : Int32))), (q23, .inl (cI, 10, .inl fun _ => (0 : Int32)))] H := hP
  have hD : va_D A [(h0, .inr (6, [.ref q7, .ref q15, .ref q23, .int 215, .int 0])), (q7, .inl (cI, 10, .inl fun _ => (0 : Int32))), (q15, .inl (cI, 10, .inl fun _ => (0 : Int32))), (q23, .inl (cI, 10, .inl fun _ => (0 : Int32)))] := hD
  refine W.widen (k := 3) (n := 30) (Nat.le_of_ble_eq_true rfl) (Nat.le_of_ble_eq_true rfl) ?_
  exact W.vret hx hb hr (fun t ht hW => ⟨⟨fun k => [q7, q15, q23].getD k 0, rfl, True.intro, by rw [ht]; exact hP, hD⟩, hS.F ht⟩) hS.2.2 (show decode cX6_init 40 = .ok (.return_, 1) from by decide +kernel) hlocks
abbrev wc_X8_init (cI cJ cD : ClassId) (h0 : Nat) (u : Nat → Nat) : va_W := [(h0, .inr (7, [.ref (u 0), .ref (u 1)])), ((u 0), .inl (cJ, 3456, .inr (.inl fun _ => (0 : Int64)))), ((u 1), .inl (cJ, 3456, .inr (.inl fun _ => (0 : Int64))))]
def mc_X8_init : Room := { frames := 1, cells := 2, slots := 6912, locals := 12 }
set_option maxHeartbeats 4000000 in
set_option maxRecDepth 100000 in
theorem c_X8_init {l : Launch} (D : va_G) (cI cJ cD : ClassId) (h0 sz : Nat) : Met l yX8_init (Cond.code yX8_init cX8_init 1 none :: pvTb) mc_X8_init (va_Pc [.ref h0] (fun U => U.heap.size = sz ∧ va_P D vwCl [(h0, .inr (7, [.null, .null]))] U.heap ∧ va_K D vwCl (pvTy cI cJ cD) U ∧ va_D (fun _ => True) [(h0, .inr (7, [.null, .null]))])) (va_Qv (fun _ : Nat → Nat => True) (fun u t => va_P D vwCl (wc_X8_init cI cJ cD h0 u) t.heap ∧ va_D (va_A [(h0, .inr (7, [.null, .null]))] sz) (wc_X8_init cI cJ cD h0 u)) (va_A [(h0, .inr (7, [.null, .null]))] sz)) 2 6912 (va_A [(h0, .inr (7, [.null, .null]))] sz) := by
  refine Met.ofW (cc := cX8_init) (maxL := 1) (ret := none) plX8 rfl ?_
  intro p e s m args below meth c s₁ B hml hv
  obtain ⟨rfl, hsz, hP, hK, hD0⟩ := hv
  have hx := B.exec
  have hb := B.bytes
  have hr := B.returns
  have hts0 := atoms_spec (ws := Cond.code yX8_init cX8_init 1 none :: pvTb) B.pre
  have hts : ∀ w ∈ pvTb, w.before #[Value.ref h0] s = true := fun w hw => hts0 w (List.mem_cons_of_mem _ hw)
  have hown : s.vm.findClass RX8 = some m.cls := findClass_of_methodNamed B.named
  have hlocks := B.notSynchronized
  have hin : meth.name = "<init>" := (name_of_methodNamed B.named B.method).1
  subst hsz
  have hD := hD0.self (sz := s.heap.size)
  generalize hAe : va_A [(h0, .inr (7, [.null, .null]))] s.heap.size = A at hD ⊢
  have hA : ∀ q : Nat, s.heap.size ≤ q → A q := fun q h => by rw [← hAe]; exact Or.inr h
  have hS : va_S A s.heap s.heap [] := va_S.rf
  have hl := lv_entry ([.ref h0]) (n := 1) (Nat.le_of_ble_eq_true rfl)
  rw [lg_entry_eq]
  generalize (lg_sl ([.ref h0]) ++ List.replicate (1 - (lg_sl ([.ref h0])).length) Slot.unset).toArray = ls at hl ⊢
  have hl : lv_has ls 1 [(0, .ref h0)] := hl
  refine lv_aload_n hx hb (show decode cX8_init 0 = .ok (.aload_n 0, 1) from by decide +kernel) rfl (lv_at hl 0 rfl) ?_
  refine W.objInit hx hb hown (hts _ wd_1_174) (hts _ wd_1_36) (hts _ wd_1_37) rfl (by rw [hml]; exact hl.1) rfl (show decode cX8_init 1 = .ok (.invokespecial 5, 3) from by decide +kernel) (Nat.le_of_ble_eq_true rfl) (Nat.le_of_ble_eq_true rfl) ?_
  refine W.eq (g2 := F0 m 4 ls []) rfl ?_
  refine lv_aload_n hx hb (show decode cX8_init 4 = .ok (.aload_n 0, 1) from by decide +kernel) rfl (lv_at hl 0 rfl) ?_
  refine lv_sipush (v := 3456) hx hb (show decode cX8_init 5 = .ok (.sipush 3456, 3) from by decide +kernel) (by decide) ?_
  refine pv_newa (atype := .long) (ty := .long) (N' := 3456) (a0 := (3456, .inr (.inl fun _ => (0 : Int64)))) hx hb (hts _ wd_1_146) rfl hK (j := 1) rfl hP hD hS hA (fun _ => rfl) (by decide) (by decide) (by decide) (by first | exact Nat.le_of_ble_eq_true rfl | omega) (by first | exact Nat.le_of_ble_eq_true rfl | omega) (show decode cX8_init 8 = .ok (.newarray .long, 2) from by decide +kernel) (fun q8 H hP hD hS => ?_)
  have hP : va_P D vwCl [(h0, .inr (7, [.null, .null])), (q8, .inl (cJ, 3456, .inr (.inl fun _ => (0 : Int64))))] H := hP
  have hD : va_D A [(h0, .inr (7, [.null, .null])), (q8, .inl (cJ, 3456, .inr (.inl fun _ => (0 : Int64))))] := hD
  refine va_putF (D := D) (ci := 7) (v := .ref q8) (ty := tyX8 0) (C := RX8) (T := TX8) (N := 2) hx hb hts wsok_X8 tyX8 tyX8_ok nmX8 hown hK hP hD hS 0 rfl rfl 0 (by decide) (hts _ wd_1_175) (fun _ h9 => h9) rfl hin rfl (by decide +kernel) rfl rfl (Nat.le_of_ble_eq_true rfl) (show decode cX8_init 10 = .ok (.putfield 13, 3) from by decide +kernel) (fun H locs hP hD hS => ?_)
  have hP : va_P D vwCl [(h0, .inr (7, [.ref q8, .null])), (q8, .inl (cJ, 3456, .inr (.inl fun _ => (0 : Int64))))] H := hP
  have hD : va_D A [(h0, .inr (7, [.ref q8, .null])), (q8, .inl (cJ, 3456, .inr (.inl fun _ => (0 : Int64))))] := hD
  refine lv_aload_n hx hb (show decode cX8_init 13 = .ok (.aload_n 0, 1) from by decide +kernel) rfl (lv_at hl 0 rfl) ?_
  refine lv_sipush (v := 3456) hx hb (show decode cX8_init 14 = .ok (.sipush 3456, 3) from by decide +kernel) (by decide) ?_
  refine pv_newa (atype := .long) (ty := .long) (N' := 3456) (a0 := (3456, .inr (.inl fun _ => (0 : Int64)))) hx hb (hts _ wd_1_146) rfl hK (j := 1) rfl hP hD hS hA (fun _ => rfl) (by decide) (by decide) (by decide) (by first | exact Nat.le_of_ble_eq_true rfl | omega) (by first | exact Nat.le_of_ble_eq_true rfl | omega) (show decode cX8_init 17 = .ok (.newarray .long, 2) from by decide +kernel) (fun q17 H hP hD hS => ?_)
  have hP : va_P D vwCl [(h0, .inr (7, [.ref q8, .null])), (q8, .inl (cJ, 3456, .inr (.inl fun _ => (0 : Int64)))), (q17, .inl (cJ, 3456, .inr (.inl fun _ => (0 : Int64))))] H := hP
  have hD : va_D A [(h0, .inr (7, [.ref q8, .null])), (q8, .inl (cJ, 3456, .inr (.inl fun _ => (0 : Int64)))), (q17, .inl (cJ, 3456, .inr (.inl fun _ => (0 : Int64))))] := hD
  refine va_putF (D := D) (ci := 7) (v := .ref q17) (ty := tyX8 1) (C := RX8) (T := TX8) (N := 2) hx hb hts wsok_X8 tyX8 tyX8_ok nmX8 hown hK hP hD hS 0 rfl rfl 1 (by decide) (hts _ wd_1_176) (fun _ h9 => h9) rfl hin rfl (by decide +kernel) rfl rfl (Nat.le_of_ble_eq_true rfl) (show decode cX8_init 19 = .ok (.putfield 17, 3) from by decide +kernel) (fun H locs hP hD hS => ?_)
  have hP : va_P D vwCl [(h0, .inr (7, [.ref q8, .ref q17])), (q8, .inl (cJ, 3456, .inr (.inl fun _ => (0 : Int64)))), (q17, .inl (cJ, 3456, .inr (.inl fun _ => (0 : Int64))))] H := hP
  have hD : va_D A [(h0, .inr (7, [.ref q8, .ref q17])), (q8, .inl (cJ, 3456, .inr (.inl fun _ => (0 : Int64)))), (q17, .inl (cJ, 3456, .inr (.inl fun _ => (0 : Int64))))] := hD
  refine W.widen (k := 2) (n := 6912) (Nat.le_of_ble_eq_true rfl) (Nat.le_of_ble_eq_true rfl) ?_
  exact W.vret hx hb hr (fun t ht hW => ⟨⟨fun k => [q8, q17].getD k 0, rfl, True.intro, by rw [ht]; exact hP, hD⟩, hS.F ht⟩) hS.2.2 (show decode cX8_init 22 = .ok (.return_, 1) from by decide +kernel) hlocks
