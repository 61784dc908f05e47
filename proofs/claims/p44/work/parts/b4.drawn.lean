/-! drawn texts, and what the class reads in them -/
def cxN (k1 k2 : Nat) : Int := if k1 < 5 then (k2 : Int) else 0
set_option maxHeartbeats 1000000 in
theorem kc_con {ch : Nat → Int} {p k0 k1 k2 : Nat} (h0 : k0 < 3) (h1 : k1 < 7) (h2 : k2 < 4) (h : ∀ j, j < (cxS k0 k1 k2).length → ch (p + j) = (((cxS k0 k1 k2).getD j 0 : Nat) : Int)) :
    kcF ch p = (true, (k0 : Int), (k1 : Int), cxN k1 k2, p + (cxS k0 k1 k2).length) := by
  have e0 : ch p = 97 + (k0 : Int) := by
    have := h 0 (by unfold cxS cxO; repeat' split
                    all_goals simp)
    rw [Nat.add_zero] at this
    rw [this]
    unfold cxS cxO
    repeat' split
    all_goals simp
  rcases (show k1 = 0 ∨ k1 = 1 ∨ k1 = 2 ∨ k1 = 3 ∨ k1 = 4 ∨ k1 = 5 ∨ k1 = 6 by omega) with rfl | rfl | rfl | rfl | rfl | rfl | rfl
  · have e1 : ch (p + 1) = 60 := h 1 (by simp [cxS, cxO])
    have e2 : ch (p + 2) = 48 + (k2 : Int) := by rw [h 2 (by simp [cxS, cxO])]; simp [cxS, cxO]
    simp [kcF, kdF, cxN, cxS, cxO, e0, e1, e2]
    rw [if_neg (by omega), if_neg (by omega), if_pos (by omega)]
    simp
    omega
  · have e1 : ch (p + 1) = 60 := h 1 (by simp [cxS, cxO])
    have e2 : ch (p + 2) = 61 := h 2 (by simp [cxS, cxO])
    have e3 : ch (p + 3) = 48 + (k2 : Int) := by rw [h 3 (by simp [cxS, cxO])]; simp [cxS, cxO]
    simp [kcF, kdF, cxN, cxS, cxO, e0, e1, e2, e3]
    rw [if_neg (by omega), if_pos (by omega)]
    simp
    omega
  · have e1 : ch (p + 1) = 61 := h 1 (by simp [cxS, cxO])
    have e2 : ch (p + 2) = 48 + (k2 : Int) := by rw [h 2 (by simp [cxS, cxO])]; simp [cxS, cxO]
    simp [kcF, kdF, cxN, cxS, cxO, e0, e1, e2]
    rw [if_neg (by omega), if_pos (by omega)]
    simp
    omega
  · have e1 : ch (p + 1) = 62 := h 1 (by simp [cxS, cxO])
    have e2 : ch (p + 2) = 61 := h 2 (by simp [cxS, cxO])
    have e3 : ch (p + 3) = 48 + (k2 : Int) := by rw [h 3 (by simp [cxS, cxO])]; simp [cxS, cxO]
    simp [kcF, kdF, cxN, cxS, cxO, e0, e1, e2, e3]
    rw [if_neg (by omega), if_pos (by omega)]
    simp
    omega
  · have e1 : ch (p + 1) = 62 := h 1 (by simp [cxS, cxO])
    have e2 : ch (p + 2) = 48 + (k2 : Int) := by rw [h 2 (by simp [cxS, cxO])]; simp [cxS, cxO]
    simp [kcF, kdF, cxN, cxS, cxO, e0, e1, e2]
    rw [if_neg (by omega), if_neg (by omega), if_pos (by omega)]
    simp
    omega
  · have e1 : ch (p + 1) = 63 := h 1 (by simp [cxS])
    simp [kcF, cxN, cxS, e0, e1]
    rw [if_neg (by omega)]
    simp
    omega
  · have e1 : ch (p + 1) = 33 := h 1 (by simp [cxS])
    simp [kcF, cxN, cxS, e0, e1]
    rw [if_neg (by omega)]
    simp
    omega
theorem cxS_n {k0 k1 k2 : Nat} : 2 ≤ (cxS k0 k1 k2).length ∧ (cxS k0 k1 k2).length ≤ 4 := by
  unfold cxS cxO
  repeat' split
  all_goals simp
theorem cxS_c {k0 k1 k2 : Nat} (h0 : k0 < 3) (h2 : k2 < 4) : ∀ x ∈ cxS k0 k1 k2, 33 ≤ x ∧ x ≤ 126 := by
  intro x hx
  unfold cxS cxO at hx
  repeat' split at hx
  all_goals (simp at hx; omega)
theorem tb_li {f : Nat → Int} {xs ys : List Nat} (h : ∀ j, j < (xs ++ ys).length → f j = (((xs ++ ys).getD j 0 : Nat) : Int)) : ∀ j, j < xs.length → f j = ((xs.getD j 0 : Nat) : Int) := fun j hj => by
  rw [h j (by rw [List.length_append]; omega), tb_l hj]
theorem tb_ri {f : Nat → Int} {xs ys : List Nat} (h : ∀ j, j < (xs ++ ys).length → f j = (((xs ++ ys).getD j 0 : Nat) : Int)) : ∀ j, j < ys.length → f (xs.length + j) = ((ys.getD j 0 : Nat) : Int) := fun j hj => by
  rw [h _ (by rw [List.length_append]; omega), tb_r (by omega), Nat.add_sub_cancel_left]
theorem chF_li {f : Nat → Int} {xs : List Nat} (h : ∀ j, j < xs.length → f j = ((xs.getD j 0 : Nat) : Int)) : ∀ j, j < xs.length → chF f xs.length j = ((xs.getD j 0 : Nat) : Int) := fun j hj => by
  unfold chF
  rw [if_pos (by omega), h j hj]
theorem chF_end {f : Nat → Int} {n j : Nat} (h : n ≤ j) : chF f n j = 0 := by
  unfold chF
  rw [if_neg (by omega)]
/-- a row's text, behind so many constraints, and its numbers -/
def dxP (i : Nat) (xs : List Nat) (f : Nat → Int) : Prop :=
  (i = 0 ∧ xs = []) ∨
  (i = 1 ∧ ∃ k0 k1 k2 : Nat, (k0 < 3 ∧ k1 < 7 ∧ k2 < 4) ∧ xs = cxS k0 k1 k2 ∧ f 0 = k0 ∧ f 1 = k1 ∧ f 2 = cxN k1 k2) ∨
  (i = 2 ∧ ∃ k0 k1 k2 j0 j1 j2 : Nat, (k0 < 3 ∧ k1 < 7 ∧ k2 < 4) ∧ (j0 < 3 ∧ j1 < 7 ∧ j2 < 4) ∧ xs = cxS k0 k1 k2 ++ ([38] ++ cxS j0 j1 j2) ∧ (f 0 = k0 ∧ f 1 = k1 ∧ f 2 = cxN k1 k2) ∧ f 3 = j0 ∧ f 4 = j1 ∧ f 5 = cxN j1 j2)
theorem dxP_c {i : Nat} {xs : List Nat} {f : Nat → Int} (h : dxP i xs f) : xs.length ≤ 9 ∧ ∀ x ∈ xs, 33 ≤ x ∧ x ≤ 126 := by
  rcases h with ⟨-, rfl⟩ | ⟨-, k0, k1, k2, hk, rfl, -⟩ | ⟨-, k0, k1, k2, j0, j1, j2, hk, hj, rfl, -⟩
  · exact ⟨Nat.zero_le _, fun x hx => absurd hx List.not_mem_nil⟩
  · exact ⟨by have := @cxS_n k0 k1 k2; omega, cxS_c hk.1 hk.2.2⟩
  · refine ⟨?_, fun x hx => ?_⟩
    · have h1 := @cxS_n k0 k1 k2
      have h2 := @cxS_n j0 j1 j2
      simp only [List.length_append, List.length_singleton]
      omega
    · rcases List.mem_append.mp hx with hx | hx
      · exact cxS_c hk.1 hk.2.2 x hx
      · rcases List.mem_append.mp hx with hx | hx
        · rw [List.mem_singleton.mp hx]; omega
        · exact cxS_c hj.1 hj.2.2 x hx
theorem dxP_s {i : Nat} {xs : List Nat} {f f' : Nat → Int} (h : dxP i xs f) (hi : i < 2) {k0 k1 k2 : Nat} (hk : k0 < 3 ∧ k1 < 7 ∧ k2 < 4) (hf : ∀ c, c < 3 * i → f' c = f c) (h0 : f' (3 * i) = k0) (h1 : f' (3 * i + 1) = k1) (h2 : f' (3 * i + 2) = cxN k1 k2) :
    dxP (i + 1) (xs ++ (if 0 < i then [38] else []) ++ cxS k0 k1 k2) f' := by
  rcases h with ⟨rfl, rfl⟩ | ⟨rfl, a0, a1, a2, ha, rfl, e0, e1, e2⟩ | ⟨rfl, -⟩
  · exact Or.inr (Or.inl ⟨rfl, k0, k1, k2, hk, rfl, h0, h1, h2⟩)
  · refine Or.inr (Or.inr ⟨rfl, a0, a1, a2, k0, k1, k2, ha, hk, ?_, ⟨(hf 0 (by decide)).trans e0, (hf 1 (by decide)).trans e1, (hf 2 (by decide)).trans e2⟩, h0, h1, h2⟩)
    rw [if_pos (by decide), List.append_assoc]
  · omega
/-- what the class reads -/
theorem dxP_r {i : Nat} {xs : List Nat} {f g : Nat → Int} (h : dxP i xs f) (hg : ∀ j, j < xs.length → g j = ((xs.getD j 0 : Nat) : Int)) : (rtF g xs.length).1 < 0 ∧ (rtF g xs.length).2.1 = i ∧ ∀ c, c < 3 * i → (rtF g xs.length).2.2 c = f c := by
  rcases h with ⟨rfl, rfl⟩ | ⟨rfl, k0, k1, k2, hk, rfl, e0, e1, e2⟩ | ⟨rfl, k0, k1, k2, j0, j1, j2, hk, hj, rfl, ⟨e0, e1, e2⟩, e3, e4, e5⟩
  · exact ⟨show (-1 : Int) < 0 by decide, rfl, fun c hc => by omega⟩
  · have hn := @cxS_n k0 k1 k2
    have hc := kc_con (ch := chF g (cxS k0 k1 k2).length) (p := 0) hk.1 hk.2.1 hk.2.2 (fun j hj => by rw [Nat.zero_add]; exact chF_li hg j hj)
    rw [Nat.zero_add] at hc
    have e : rtF g (cxS k0 k1 k2).length = (-1, 1, gdI (fun _ => 0) 0 k0 k1 (cxN k1 k2)) := by
      unfold rtF
      rw [if_neg (by omega)]
      unfold rdF
      rw [hc]
      simp only [if_true]
      rw [chF_end (Nat.le_refl _), if_neg (by omega), if_neg (by omega)]
      rfl
    rw [e]
    refine ⟨show (-1 : Int) < 0 by decide, rfl, fun c hc9 => ?_⟩
    rcases (show c = 0 ∨ c = 1 ∨ c = 2 by omega) with rfl | rfl | rfl
    · exact e0.symm
    · exact e1.symm
    · exact e2.symm
  · have hn := @cxS_n k0 k1 k2
    have hm := @cxS_n j0 j1 j2
    generalize hN : (cxS k0 k1 k2 ++ ([38] ++ cxS j0 j1 j2)).length = N at hg
    have hNl : N = (cxS k0 k1 k2).length + (1 + (cxS j0 j1 j2).length) := by rw [← hN]; simp; omega
    have hcg : ∀ j, j < (cxS k0 k1 k2 ++ ([38] ++ cxS j0 j1 j2)).length → chF g N j = (((cxS k0 k1 k2 ++ ([38] ++ cxS j0 j1 j2)).getD j 0 : Nat) : Int) := by
      intro j hj
      rw [← hN]
      exact chF_li (fun j hj => hg j (by omega)) j hj
    have hc := kc_con (ch := chF g N) (p := 0) hk.1 hk.2.1 hk.2.2 (fun j hj => by rw [Nat.zero_add]; exact tb_li hcg j hj)
    rw [Nat.zero_add] at hc
    have h38 : chF g N (cxS k0 k1 k2).length = 38 := by
      have := tb_ri hcg 0 (by simp)
      rw [Nat.add_zero] at this
      rw [this]
      rfl
    have hc2 := kc_con (ch := chF g N) (p := (cxS k0 k1 k2).length + 1) hj.1 hj.2.1 hj.2.2 (fun j hj9 => by
      have := tb_ri (tb_ri hcg) j hj9
      rw [← this]
      show chF g N _ = chF g N ((cxS k0 k1 k2).length + (1 + j))
      congr 1
      omega)
    have e : rtF g N = (-1, 2, gdI (gdI (fun _ => 0) 0 k0 k1 (cxN k1 k2)) 1 j0 j1 (cxN j1 j2)) := by
      unfold rtF
      rw [if_neg (by omega)]
      unfold rdF
      rw [hc]
      simp only [if_true]
      rw [h38, if_pos ⟨by decide, rfl⟩]
      unfold rdF
      rw [hc2]
      simp only [if_true]
      rw [chF_end (by omega), if_neg (by omega), if_neg (by omega)]
      rfl
    rw [e]
    refine ⟨show (-1 : Int) < 0 by decide, rfl, fun c hc9 => ?_⟩
    rcases (show c = 0 ∨ c = 1 ∨ c = 2 ∨ c = 3 ∨ c = 4 ∨ c = 5 by omega) with rfl | rfl | rfl | rfl | rfl | rfl
    · exact e0.symm
    · exact e1.symm
    · exact e2.symm
    · exact e3.symm
    · exact e4.symm
    · exact e5.symm
