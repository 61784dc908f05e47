/-! the law over the machine -/
set_option maxHeartbeats 4000000 in
set_option maxRecDepth 100000 in
theorem whole_start {p : Program} {e : Env} {s : State} {m : MethodId} {below : List Frame} {meth : Method} {c : Code} (l : Launch) (hflags : l.flags = flags0) {b L : Nat} {xs : Nat → Int32} (hL : L ≤ 260) (C0 : lw_At p s m meth c b L xs) : W p l e room_1 s m #[Value.ref b] below meth c s.heap [] 0 0 (lw_Z below #[Value.ref b] s) (entryFrame m ([Value.ref b] : List Value).toArray 15) := by
  obtain ⟨hx, hb, hr, hml, hown, hts1, hX, hbl, hlocks, hgv⟩ := id C0
  have hf : l.stackTraces = false := by
    unfold Launch.stackTraces
    rw [hflags]
    decide +kernel
  have hts : ∀ w ∈ pvTb, w.before #[Value.ref b] s = true := pv_hts hts1
  obtain ⟨D, cI, cJ, cD, hWc⟩ := pv_wc (by omega) hX hbl hts1 hgv
  have hXn := pv_xc hts1
  have hK := hWc.1
  have hA : ∀ q : Nat, s.heap.size ≤ q → (fun q : Nat => s.heap.size ≤ q) q := fun _ h => h
  have hS : va_S (fun q : Nat => s.heap.size ≤ q) s.heap s.heap [] := va_S.rf
  have hP : va_P D vwCl [] s.heap := fun k q h => by simp at h
  have hD : va_D (fun q : Nat => s.heap.size ≤ q) [] := ⟨fun i j p q h => by simp at h, fun k q h => by simp at h⟩
  have hl := lv_entry ([.ref b]) (n := 15) (Nat.le_of_ble_eq_true rfl)
  rw [lg_entry_eq]
  generalize (lg_sl ([.ref b]) ++ List.replicate (15 - (lg_sl ([.ref b])).length) Slot.unset).toArray = ls at hl ⊢
  have hl : lv_has ls 15 [(0, .ref b)] := hl
  refine va_new (ci := 8) (fs := [.null, .null, .null, .null, .null, .null, .null, .null, .null, .null, .null]) (C := RX9) (T := TX9) (N := 11) hx hb hts wsok_X9 tyX9 tyX9_ok hown (hts _ wd_1_30) (hts _ wd_1_31) (hts _ wd_1_1) hK hP hD hS hA rfl (fun j hj => by rcases (show j = 0 ∨ j = 1 ∨ j = 2 ∨ j = 3 ∨ j = 4 ∨ j = 5 ∨ j = 6 ∨ j = 7 ∨ j = 8 ∨ j = 9 ∨ j = 10 by omega) with rfl | rfl | rfl | rfl | rfl | rfl | rfl | rfl | rfl | rfl | rfl <;> rfl) (by first | exact Nat.le_of_ble_eq_true rfl | omega) (by first | exact Nat.le_of_ble_eq_true rfl | omega) (show decode cL_law 0 = .ok (.new 25, 3) from by decide +kernel) (fun q0 H hP hD hS => ?_)
  have hP : va_P D vwCl [(q0, .inr (8, [.null, .null, .null, .null, .null, .null, .null, .null, .null, .null, .null]))] H := hP
  have hD : va_D (fun q : Nat => s.heap.size ≤ q) [(q0, .inr (8, [.null, .null, .null, .null, .null, .null, .null, .null, .null, .null, .null]))] := hD
  refine lv_dup hx hb (show decode cL_law 3 = .ok (.dup, 1) from by decide +kernel) rfl ?_
  have hPc := hP.sub (ws' := [(q0, .inr (8, [.null, .null, .null, .null, .null, .null, .null, .null, .null, .null, .null]))]) [0] rfl
  have hDc := hD.sub (ws' := [(q0, .inr (8, [.null, .null, .null, .null, .null, .null, .null, .null, .null, .null, .null]))]) [0] (by decide) rfl
  have hFc := va_free (wc := [(q0, .inr (8, [.null, .null, .null, .null, .null, .null, .null, .null, .null, .null, .null]))]) hD hS hA [0] rfl
  refine va_callv (va_runI (As := []) (rest := [.ref q0]) ⟨hx, hb, hml, hown, hts⟩ (c_X9_init D cI cJ cD q0 H.size) (cwI 0 hts (pvGood_c pvTb_g wd_1_34) rfl rfl rfl (hts _ wd_1_1) (hts _ wd_1_32) (hts _ wd_1_33) rfl (by decide +kernel) ⟨(Nat.le_of_ble_eq_true rfl), (Nat.le_of_ble_eq_true rfl)⟩) ⟨fun a U g mk q => by obtain ⟨q0, q1, qP, qK, qD, qN⟩ := q; exact ⟨q0, q1, qP, va_K.moved (u := U) (U := U.calling g mk a) (Vm.Alike.refl U.vm) qK, qD, fun q9 h9 => va_Nw.same rfl rfl (qN q9 h9)⟩, fun U hU hW => ⟨rfl, by rw [hU], by rw [hU]; exact hPc, va_K.moved hW.alike hK, hDc.weaken (fun _ _ _ _ => trivial), fun q9 h9 => va_Nw.warmM hW (hXn q9 h9)⟩⟩ rfl rfl hl.1 rfl (lv_room (Nat.le_of_ble_eq_true rfl)) (show decode cL_law 4 = .ok (.invokespecial 175, 3) from by decide +kernel) ⟨(by first | exact Nat.le_of_ble_eq_true rfl | omega), (by first | exact Nat.le_of_ble_eq_true rfl | omega)⟩) hS (fun q _ h => hFc q h) hFc (fun u t H1 locs ht hvm _ hB hz1 hk1 hS => ?_)
  obtain ⟨u4, rfl⟩ : ∃ z, z = u := ⟨_, rfl⟩
  obtain ⟨hP1, hD1⟩ := hB
  rw [ht] at hP1
  obtain ⟨hP, hD⟩ := va_join (wr := []) (w1 := [(q0, .inr (8, [.ref (u4 0), .ref (u4 2), .ref (u4 4), .ref (u4 8), .ref (u4 12), .ref (u4 16), .ref (u4 19), .ref (u4 23), .ref (u4 27), .ref (u4 32), .ref (u4 35)])), ((u4 0), .inr (0, [.ref (u4 1)])), ((u4 1), .inl (cI, 173, .inl (upd (fun _ => (0 : Int32)) (1 : Int32).toNatClampNeg 1))), ((u4 2), .inr (0, [.ref (u4 3)])), ((u4 3), .inl (cI, 173, .inl (upd (fun _ => (0 : Int32)) (1 : Int32).toNatClampNeg 1))), ((u4 4), .inr (3, [.ref (u4 5), .ref (u4 6), .ref (u4 7), .int 0, .int 0, .int 0, .int 0])), ((u4 5), .inl (cI, 648, .inl fun _ => (0 : Int32))), ((u4 6), .inl (cI, 16, .inl fun _ => (0 : Int32))), ((u4 7), .inl (cI, 16, .inl fun _ => (0 : Int32))), ((u4 8), .inr (3, [.ref (u4 9), .ref (u4 10), .ref (u4 11), .int 0, .int 0, .int 0, .int 0])), ((u4 9), .inl (cI, 648, .inl fun _ => (0 : Int32))), ((u4 10), .inl (cI, 16, .inl fun _ => (0 : Int32))), ((u4 11), .inl (cI, 16, .inl fun _ => (0 : Int32))), ((u4 12), .inr (3, [.ref (u4 13), .ref (u4 14), .ref (u4 15), .int 0, .int 0, .int 0, .int 0])), ((u4 13), .inl (cI, 648, .inl fun _ => (0 : Int32))), ((u4 14), .inl (cI, 16, .inl fun _ => (0 : Int32))), ((u4 15), .inl (cI, 16, .inl fun _ => (0 : Int32))), ((u4 16), .inr (1, [.ref (u4 17), .int 0, .ref (u4 18), .int 0, .int (-1)])), ((u4 17), .inl (cI, 30, .inl fun _ => (0 : Int32))), ((u4 18), .inl (cI, 12, .inl fun _ => (0 : Int32))), ((u4 19), .inr (6, [.ref (u4 20), .ref (u4 21), .ref (u4 22), .int 215, .int 0])), ((u4 20), .inl (cI, 10, .inl fun _ => (0 : Int32))), ((u4 21), .inl (cI, 10, .inl fun _ => (0 : Int32))), ((u4 22), .inl (cI, 10, .inl fun _ => (0 : Int32))), ((u4 23), .inr (4, [.ref (u4 24), .ref (u4 25), .ref (u4 26)])), ((u4 24), .inl (cJ, 4, .inr (.inl fun _ => (0 : Int64)))), ((u4 25), .inl (cJ, 4, .inr (.inl fun _ => (0 : Int64)))), ((u4 26), .inl (cI, 11, .inl fun _ => (0 : Int32))), ((u4 27), .inr (5, [.ref (u4 28), .ref (u4 29), .ref (u4 30), .ref (u4 31), .int 0])), ((u4 28), .inl (cI, 23552, .inl fun _ => (0 : Int32))), ((u4 29), .inl (cI, 23552, .inl fun _ => (0 : Int32))), ((u4 30), .inl (cI, 23552, .inl fun _ => (0 : Int32))), ((u4 31), .inl (cI, 12, .inl fun _ => (0 : Int32))), ((u4 32), .inr (7, [.ref (u4 33), .ref (u4 34)])), ((u4 33), .inl (cJ, 3456, .inr (.inl fun _ => (0 : Int64)))), ((u4 34), .inl (cJ, 3456, .inr (.inl fun _ => (0 : Int64)))), ((u4 35), .inr (2, [.ref (u4 36), .ref (u4 37), .int 0, .int 0, .int 0])), ((u4 36), .inl (cI, 2768, .inl fun _ => (0 : Int32))), ((u4 37), .inl (cI, 346, .inl fun _ => (0 : Int32)))]) hP hD [0] [] rfl rfl (by decide) (by decide) hk1 hFc hP1 hD1
  generalize H1 = H at hP hS ⊢
  obtain ⟨ad0, had0⟩ : ∃ ad0 : Nat → Nat, ad0 = fun id => if id = 0 then q0 else if id = 60 then b else u4 (id - 1) := ⟨_, rfl⟩
  have hP : va_P D vwCl (pvWs ad0 cI cJ cD (List.range 39) stM) H := by
    rw [had0, ← st_world]
    exact hP
  have hD : va_D (fun q : Nat => s.heap.size ≤ q) (pvWs ad0 cI cJ cD (List.range 39) stM) := by
    rw [had0, ← st_world]
    exact hD
  clear hPc hDc hP1 hD1
  refine lv_astore_n (lv' := [(1, .ref q0), (0, .ref b)]) hx hb (show decode cL_law 7 = .ok (.astore_n 1, 1) from by decide +kernel) rfl hl (by decide) rfl (fun ls hl => ?_)
  have ha60 : ad0 60 = b := by rw [had0]; rfl
  have ha0 : ad0 0 = q0 := by rw [had0]; rfl
  have M : pvMc "EventClockWorkbenchLaw" cL_law 15 pvTb p s m #[Value.ref b] meth c := ⟨hx, hb, hml, hown, hts, hlocks⟩
  refine law_body (Qs := []) hf M hWc ha60 st_rng hP hD hS ⟨?_, rfl⟩ ⟨Nat.le_of_ble_eq_true rfl, Nat.le_of_ble_eq_true rfl⟩ st_g rfl ?_ ?_ st_p st_q st_w rfl (fun pc H locs arr hd hSS => ?_)
  · rw [show pvAr ad0 [some (vR 60), some (vR 0), none, none, none, none, none, none, none, none, none, none, none, none, none] = [(0, Value.ref (ad0 60)), (1, Value.ref (ad0 0))] from rfl, ha60, ha0]
    exact lv_sub hl [1, 0] rfl
  · show (autC stA).1 = 0
    rw [st_A]
    rfl
  · show (autC stA).1 = 0
    rw [st_A]
    rfl
  · refine va_forget (fun q hq => hSS.2.2 q hq) ?_
    refine W.widen (k := 600104) (n := 7301313) (Nat.le_of_ble_eq_true rfl) (Nat.le_of_ble_eq_true rfl) ?_
    exact W.base (lw_ret (Drawn.sameBut.refl s.drawn lw_cs) hx hb hr hlocks hd)
