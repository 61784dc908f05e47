/-! the reference: runs counted -/
theorem rnS_nz {T : Nat → Nat → Int} {a v : Int} {R : Int → Int} (n : Nat) (hR : ∀ t, t < n → 0 ≤ R (T t 2)) (k : Nat) (hk : k ≤ n) (q : Int) : 0 ≤ rnS T a v R k q ∧ (rnS T a v R k q ≠ 0 ↔ ∃ t, t < k ∧ T t 0 = q ∧ R (T t 2) ≠ 0 ∧ T t 1 = a ∧ blF (T t) v < 0) := by
  induction k with
  | zero =>
    refine ⟨Int.le_refl _, fun h => absurd rfl h, ?_⟩
    rintro ⟨t, ht, _⟩
    omega
  | succ k ih =>
    obtain ⟨i1, i2⟩ := ih (by omega)
    have hk0 := hR k (by omega)
    simp only [rnS]
    by_cases e : T k 0 = q ∧ T k 1 = a ∧ blF (T k) v < 0
    · rw [if_pos e]
      refine ⟨by clear i2; omega, ?_⟩
      constructor
      · intro h
        by_cases hz : rnS T a v R k q = 0
        · exact ⟨k, by omega, e.1, by clear i2; omega, e.2⟩
        · obtain ⟨t, h1, h2⟩ := i2.mp hz
          exact ⟨t, by omega, h2⟩
      · rintro ⟨t, h1, h2, h3, h4⟩
        by_cases et : t = k
        · subst et
          clear i2
          omega
        · have h9 := i2.mpr ⟨t, by omega, h2, h3, h4⟩
          clear i2
          omega
    · rw [if_neg e, Int.add_zero]
      refine ⟨i1, i2.trans ?_⟩
      constructor
      · rintro ⟨t, h1, h2⟩; exact ⟨t, by omega, h2⟩
      · rintro ⟨t, h1, h2, h3, h4⟩
        by_cases et : t = k
        · subst et; exact absurd ⟨h2, h4⟩ e
        · exact ⟨t, by omega, h2, h3, h4⟩
theorem hp_rn {A : Aut} (h : WfA A) (d l : Nat → Int) (m : Nat) : ∀ (i : Nat) (q : Int), 0 ≤ q ∧ q ≤ 3 → (btF (hpK A d l m i) q = true ↔ rnB A d l (biF A.2.2.1) m i q ≠ 0) := by
  induction m with
  | zero =>
    intro i q hq
    simp only [hpK, rnB, biF]
    cases btF A.2.2.1 q <;> simp
  | succ m ih =>
    intro i q hq
    have hR : ∀ t, t < A.1.toNat → 0 ≤ rnB A d l (biF A.2.2.1) m (i + 1) (A.2.2.2 t 2) := fun t ht => (rnB_r h d l (fun q _ => biF_r _ _) m (i + 1) _ (h.2.2.2 t (by omega)).2.2.1).1
    simp only [hpK, rnB]
    rw [(rnS_nz A.1.toNat hR A.1.toNat (Nat.le_refl _) q).2]
    unfold saF
    rw [sa_bt (n := A.1.toNat) (fun t ht => (h.2.2.2 t (by omega)).1) _ _ _ hq A.1.toNat (Nat.le_refl _)]
    refine exists_congr fun t => ?_
    constructor
    · rintro ⟨h1, h2, h3, h4⟩
      exact ⟨h1, h2, (ih (i + 1) _ (h.2.2.2 t (by omega)).2.2.1).mp h3, h4⟩
    · rintro ⟨h1, h2, h3, h4⟩
      exact ⟨h1, h2, (ih (i + 1) _ (h.2.2.2 t (by omega)).2.2.1).mpr h3, h4⟩
theorem ru_hp {A : Aut} (h : WfA A) (d l : Nat → Int) (n : Nat) : ruF A d l n A.2.2.1 = 0 ↔ pvAnd A.2.1 (hpK A d l n 0) = 0 := by
  have hr := hpK_r h d l n 0
  rw [zero_bt (and15 h.2.1 hr)]
  have one : ∀ q : Int, 0 ≤ q ∧ q ≤ 3 → 0 ≤ biF A.2.1 q * rnB A d l (biF A.2.2.1) n 0 q ∧ (biF A.2.1 q * rnB A d l (biF A.2.2.1) n 0 q = 0 ↔ btF (pvAnd A.2.1 (hpK A d l n 0)) q = false) := by
    intro q hq
    have r := rnB_r h d l (fun q _ => biF_r A.2.2.1 q) n 0 q hq
    have e := hp_rn h d l n 0 q hq
    rw [bt_and h.2.1 hr hq]
    unfold biF at *
    cases h1 : btF A.2.1 q <;> cases h2 : btF (hpK A d l n 0) q <;> simp [h2] at e ⊢ <;> omega
  have h0 := one 0 (by decide)
  have h1 := one 1 (by decide)
  have h2 := one 2 (by decide)
  have h3 := one 3 (by decide)
  unfold ruF sm4
  simp only [Int.natCast_zero, show ((1 : Nat) : Int) = 1 from rfl, show ((2 : Nat) : Int) = 2 from rfl, show ((3 : Nat) : Int) = 3 from rfl]
  constructor
  · intro e q hq
    rcases (show q = 0 ∨ q = 1 ∨ q = 2 ∨ q = 3 by omega) with rfl | rfl | rfl | rfl
    · exact h0.2.mp (by omega)
    · exact h1.2.mp (by omega)
    · exact h2.2.mp (by omega)
    · exact h3.2.mp (by omega)
  · intro e
    have := h0.2.mpr (e 0 (by decide))
    have := h1.2.mpr (e 1 (by decide))
    have := h2.2.mpr (e 2 (by decide))
    have := h3.2.mpr (e 3 (by decide))
    omega
def C_X10_countsRuns : pvC
  | [.inr (.inr (.inl id)), .inl s, .inl acc], z, Q => id = 39 ∧ ((0 ≤ s ∧ s ≤ 1) ∧ (acc = 0 ∨ acc = 1) ∧ WfA (autR (z.1 40) s) ∧ WdF (z.1 39 7) (z.1 43) (z.1 44)) ∧
      ∀ z' : pvM, frF [] [47] z z' → (∀ (i m q : Nat), (i : Int) + m = z.1 39 7 → q < 4 → z'.2.1 47 (4 * i + q) = rnB (autR (z.1 40) s) (z.1 43) (z.1 44) (biF (if acc = 0 then 15 else (autR (z.1 40) s).2.2.1)) m i (q : Int)) → Q (.inl (some (vL (ruF (autR (z.1 40) s) (z.1 43) (z.1 44) (z.1 39 7).toNat (if acc = 0 then 15 else (autR (z.1 40) s).2.2.1))))) z'
  | _, _, _ => False
def bX10_countsRuns : Nat → List (Instr × Nat)
  | 0 => [(.iconst 0, 1), (.istore_n 3, 1)]
  | 2 => [(.iload_n 3, 1), (.iconst 4, 1), (.if_icmp .ge 50, 3), (.aload_n 0, 1), (.getfield 35, 3), (.iconst 4, 1), (.aload_n 0, 1), (.getfield 158, 3), (.imul, 1), (.iload_n 3, 1), (.iadd, 1), (.iload_n 2, 1), (.ifCond .eq 26, 3), (.aload_n 0, 1), (.getfield 7, 3), (.sipush 163, 3), (.iload_n 1, 1), (.imul, 1), (.iconst 1, 1), (.iadd, 1), (.iaload, 1), (.iload_n 3, 1), (.ishr, 1), (.iconst 1, 1), (.iand, 1), (.ifCond .ne 7, 3), (.lconst 0, 1), (.goto 4, 3)]
  | 46 => [(.lconst 1, 1)]
  | 47 => [(.lastore, 1), (.iinc 3 1, 3), (.goto (-49), 3)]
  | 54 => [(.aload_n 0, 1), (.getfield 158, 3), (.iconst 1, 1), (.isub, 1), (.istore_n 3, 1)]
  | 61 => [(.iload_n 3, 1), (.ifCond .lt 131, 3), (.aload_n 0, 1), (.iload_n 3, 1), (.invokevirtual 170, 3), (.istore 4, 2), (.iconst 0, 1), (.istore 5, 2)]
  | 75 => [(.iload 5, 2), (.iconst 4, 1), (.if_icmp .ge 109, 3), (.aload_n 0, 1), (.getfield 35, 3), (.iconst 4, 1), (.iload_n 3, 1), (.imul, 1), (.iload 5, 2), (.iadd, 1), (.lconst 0, 1), (.lastore, 1), (.iconst 0, 1), (.istore 6, 2)]
  | 96 => [(.iload 6, 2), (.aload_n 0, 1), (.getfield 7, 3), (.sipush 163, 3), (.iload_n 1, 1), (.imul, 1), (.iconst 2, 1), (.iadd, 1), (.iaload, 1), (.if_icmp .ge 71, 3), (.aload_n 0, 1), (.getfield 35, 3), (.iconst 4, 1), (.iload_n 3, 1), (.imul, 1), (.iload 5, 2), (.iadd, 1), (.dup2, 1), (.laload, 1), (.aload_n 0, 1), (.iload_n 1, 1), (.iload 6, 2), (.iload 5, 2), (.aload_n 0, 1), (.getfield 22, 3), (.iload_n 3, 1), (.iaload, 1), (.iload 4, 2), (.invokevirtual 176, 3), (.ifCond .eq 30, 3), (.aload_n 0, 1), (.getfield 35, 3), (.iconst 4, 1), (.iload_n 3, 1), (.imul, 1), (.iconst 4, 1), (.iadd, 1), (.aload_n 0, 1), (.getfield 7, 3), (.iload_n 1, 1), (.iload 6, 2), (.invokestatic 130, 3), (.iconst 2, 1), (.iadd, 1), (.iaload, 1), (.iadd, 1), (.laload, 1), (.goto 4, 3)]
  | 172 => [(.lconst 0, 1)]
  | 173 => [(.ladd, 1), (.lastore, 1), (.iinc 6 1, 3), (.goto (-82), 3)]
  | 181 => [(.iinc 5 1, 3), (.goto (-109), 3)]
  | 187 => [(.iinc 3 (-1), 3), (.goto (-129), 3)]
  | 193 => [(.lconst 0, 1), (.lstore_n 3, 1), (.iconst 0, 1), (.istore 5, 2)]
  | 198 => [(.iload 5, 2), (.iconst 4, 1), (.if_icmp .ge 42, 3), (.lload_n 3, 1), (.aload_n 0, 1), (.getfield 7, 3), (.sipush 163, 3), (.iload_n 1, 1), (.imul, 1), (.iaload, 1), (.iload 5, 2), (.ishr, 1), (.iconst 1, 1), (.iand, 1), (.iconst 1, 1), (.if_icmp .ne 13, 3), (.aload_n 0, 1), (.getfield 35, 3), (.iload 5, 2), (.laload, 1), (.goto 4, 3)]
  | 234 => [(.lconst 0, 1)]
  | 235 => [(.ladd, 1), (.lstore_n 3, 1), (.iinc 5 1, 3), (.goto (-42), 3)]
  | 243 => [(.lload_n 3, 1), (.lreturn, 1)]
  | _ => []
def uX10_countsRuns : Nat → Option (List Bool)
  | 2 => some [true, true, true, true, false, false, false]
  | 61 => some [true, true, false, true, false, false, false]
  | 75 => some [true, true, false, true, true, true, false]
  | 96 => some [true, true, false, true, true, true, true]
  | 198 => some [true, true, false, true, false, true, false]
  | _ => none
def aX10_countsRuns : pvCa
  | 130 => some (2, true, 0, 0, C_X10_at)
  | 170 => some (2, false, 9, 0, C_X10_reads)
  | 176 => some (6, false, 9, 0, C_X10_goes)
  | _ => none
theorem bX10_countsRuns_0 : bX10_countsRuns 0 = [(.iconst 0, 1), (.istore_n 3, 1)] := rfl
theorem uX10_countsRuns_0 : uX10_countsRuns 0 = none := rfl
theorem bX10_countsRuns_2 : bX10_countsRuns 2 = [(.iload_n 3, 1), (.iconst 4, 1), (.if_icmp .ge 50, 3), (.aload_n 0, 1), (.getfield 35, 3), (.iconst 4, 1), (.aload_n 0, 1), (.getfield 158, 3), (.imul, 1), (.iload_n 3, 1), (.iadd, 1), (.iload_n 2, 1), (.ifCond .eq 26, 3), (.aload_n 0, 1), (.getfield 7, 3), (.sipush 163, 3), (.iload_n 1, 1), (.imul, 1), (.iconst 1, 1), (.iadd, 1), (.iaload, 1), (.iload_n 3, 1), (.ishr, 1), (.iconst 1, 1), (.iand, 1), (.ifCond .ne 7, 3), (.lconst 0, 1), (.goto 4, 3)] := rfl
theorem uX10_countsRuns_2 : uX10_countsRuns 2 = some [true, true, true, true, false, false, false] := rfl
theorem bX10_countsRuns_46 : bX10_countsRuns 46 = [(.lconst 1, 1)] := rfl
theorem uX10_countsRuns_46 : uX10_countsRuns 46 = none := rfl
theorem bX10_countsRuns_47 : bX10_countsRuns 47 = [(.lastore, 1), (.iinc 3 1, 3), (.goto (-49), 3)] := rfl
theorem uX10_countsRuns_47 : uX10_countsRuns 47 = none := rfl
theorem bX10_countsRuns_54 : bX10_countsRuns 54 = [(.aload_n 0, 1), (.getfield 158, 3), (.iconst 1, 1), (.isub, 1), (.istore_n 3, 1)] := rfl
theorem uX10_countsRuns_54 : uX10_countsRuns 54 = none := rfl
theorem bX10_countsRuns_61 : bX10_countsRuns 61 = [(.iload_n 3, 1), (.ifCond .lt 131, 3), (.aload_n 0, 1), (.iload_n 3, 1), (.invokevirtual 170, 3), (.istore 4, 2), (.iconst 0, 1), (.istore 5, 2)] := rfl
theorem uX10_countsRuns_61 : uX10_countsRuns 61 = some [true, true, false, true, false, false, false] := rfl
theorem bX10_countsRuns_75 : bX10_countsRuns 75 = [(.iload 5, 2), (.iconst 4, 1), (.if_icmp .ge 109, 3), (.aload_n 0, 1), (.getfield 35, 3), (.iconst 4, 1), (.iload_n 3, 1), (.imul, 1), (.iload 5, 2), (.iadd, 1), (.lconst 0, 1), (.lastore, 1), (.iconst 0, 1), (.istore 6, 2)] := rfl
theorem uX10_countsRuns_75 : uX10_countsRuns 75 = some [true, true, false, true, true, true, false] := rfl
theorem bX10_countsRuns_96 : bX10_countsRuns 96 = [(.iload 6, 2), (.aload_n 0, 1), (.getfield 7, 3), (.sipush 163, 3), (.iload_n 1, 1), (.imul, 1), (.iconst 2, 1), (.iadd, 1), (.iaload, 1), (.if_icmp .ge 71, 3), (.aload_n 0, 1), (.getfield 35, 3), (.iconst 4, 1), (.iload_n 3, 1), (.imul, 1), (.iload 5, 2), (.iadd, 1), (.dup2, 1), (.laload, 1), (.aload_n 0, 1), (.iload_n 1, 1), (.iload 6, 2), (.iload 5, 2), (.aload_n 0, 1), (.getfield 22, 3), (.iload_n 3, 1), (.iaload, 1), (.iload 4, 2), (.invokevirtual 176, 3), (.ifCond .eq 30, 3), (.aload_n 0, 1), (.getfield 35, 3), (.iconst 4, 1), (.iload_n 3, 1), (.imul, 1), (.iconst 4, 1), (.iadd, 1), (.aload_n 0, 1), (.getfield 7, 3), (.iload_n 1, 1), (.iload 6, 2), (.invokestatic 130, 3), (.iconst 2, 1), (.iadd, 1), (.iaload, 1), (.iadd, 1), (.laload, 1), (.goto 4, 3)] := rfl
theorem uX10_countsRuns_96 : uX10_countsRuns 96 = some [true, true, false, true, true, true, true] := rfl
theorem bX10_countsRuns_172 : bX10_countsRuns 172 = [(.lconst 0, 1)] := rfl
theorem uX10_countsRuns_172 : uX10_countsRuns 172 = none := rfl
theorem bX10_countsRuns_173 : bX10_countsRuns 173 = [(.ladd, 1), (.lastore, 1), (.iinc 6 1, 3), (.goto (-82), 3)] := rfl
theorem uX10_countsRuns_173 : uX10_countsRuns 173 = none := rfl
theorem bX10_countsRuns_181 : bX10_countsRuns 181 = [(.iinc 5 1, 3), (.goto (-109), 3)] := rfl
theorem uX10_countsRuns_181 : uX10_countsRuns 181 = none := rfl
theorem bX10_countsRuns_187 : bX10_countsRuns 187 = [(.iinc 3 (-1), 3), (.goto (-129), 3)] := rfl
theorem uX10_countsRuns_187 : uX10_countsRuns 187 = none := rfl
theorem bX10_countsRuns_193 : bX10_countsRuns 193 = [(.lconst 0, 1), (.lstore_n 3, 1), (.iconst 0, 1), (.istore 5, 2)] := rfl
theorem uX10_countsRuns_193 : uX10_countsRuns 193 = none := rfl
theorem bX10_countsRuns_198 : bX10_countsRuns 198 = [(.iload 5, 2), (.iconst 4, 1), (.if_icmp .ge 42, 3), (.lload_n 3, 1), (.aload_n 0, 1), (.getfield 7, 3), (.sipush 163, 3), (.iload_n 1, 1), (.imul, 1), (.iaload, 1), (.iload 5, 2), (.ishr, 1), (.iconst 1, 1), (.iand, 1), (.iconst 1, 1), (.if_icmp .ne 13, 3), (.aload_n 0, 1), (.getfield 35, 3), (.iload 5, 2), (.laload, 1), (.goto 4, 3)] := rfl
theorem uX10_countsRuns_198 : uX10_countsRuns 198 = some [true, true, false, true, false, true, false] := rfl
theorem bX10_countsRuns_234 : bX10_countsRuns 234 = [(.lconst 0, 1)] := rfl
theorem uX10_countsRuns_234 : uX10_countsRuns 234 = none := rfl
theorem bX10_countsRuns_235 : bX10_countsRuns 235 = [(.ladd, 1), (.lstore_n 3, 1), (.iinc 5 1, 3), (.goto (-42), 3)] := rfl
theorem uX10_countsRuns_235 : uX10_countsRuns 235 = none := rfl
theorem bX10_countsRuns_243 : bX10_countsRuns 243 = [(.lload_n 3, 1), (.lreturn, 1)] := rfl
theorem uX10_countsRuns_243 : uX10_countsRuns 243 = none := rfl
theorem aX10_countsRuns_130 : aX10_countsRuns 130 = some (2, true, 0, 0, C_X10_at) := rfl
theorem aX10_countsRuns_170 : aX10_countsRuns 170 = some (2, false, 9, 0, C_X10_reads) := rfl
theorem aX10_countsRuns_176 : aX10_countsRuns 176 = some (6, false, 9, 0, C_X10_goes) := rfl
def mX10_countsRuns : Room := { frames := 3, cells := 1, slots := 6, locals := 73 }
set_option maxRecDepth 100000 in
set_option maxHeartbeats 4000000 in
theorem okX10_countsRuns : pvOkM fX10 aX10_countsRuns kX10 eX10 (some .long) bX10_countsRuns uX10_countsRuns 7 C_X10_countsRuns := by
  intro Q SW hc as z h hS hz
  unfold C_X10_countsRuns at h
  split at h
  · rename_i id s acc
    obtain ⟨rfl, ⟨hs, ha, hw, hd⟩, h2⟩ := h
    refine ⟨Nat.le_of_ble_eq_true rfl, ?_⟩
    have hd1 := hd.1
    obtain ⟨n, en⟩ : ∃ n : Nat, z.1 39 7 = n := ⟨(z.1 39 7).toNat, by omega⟩
    rw [en] at hd1
    rw [en, Int.toNat_natCast] at h2
    obtain ⟨E, eE⟩ : ∃ E : Int, (if acc = 0 then 15 else (autR (z.1 40) s).2.2.1) = E := ⟨_, rfl⟩
    rw [eE] at h2
    have hn := hw.1
    have gn : z.1 40 (163 * s + 2).toNat = (autR (z.1 40) s).1 := rS_n hs.1 rfl
    have gi : z.1 40 (163 * s).toNat = (autR (z.1 40) s).2.1 := rS_i hs.1 rfl
    have gf : z.1 40 (163 * s + 1).toNat = (autR (z.1 40) s).2.2.1 := rS_f hs.1 rfl
    have wi := hw.2.1
    have wf := hw.2.2.1
    have sum : ∀ (m k : Nat) (z' : pvM) (x : Int), k + m = 4 → frF [] [47] z z' → (∀ (i m q : Nat), i + m = n → q < 4 → z'.2.1 47 (4 * i + q) = rnB (autR (z.1 40) s) (z.1 43) (z.1 44) (biF E) m i (q : Int)) →
        x = (if 0 < k then biF (autR (z.1 40) s).2.1 0 * rnB (autR (z.1 40) s) (z.1 43) (z.1 44) (biF E) n 0 0 else 0) + (if 1 < k then biF (autR (z.1 40) s).2.1 1 * rnB (autR (z.1 40) s) (z.1 43) (z.1 44) (biF E) n 0 1 else 0) + (if 2 < k then biF (autR (z.1 40) s).2.1 2 * rnB (autR (z.1 40) s) (z.1 43) (z.1 44) (biF E) n 0 2 else 0) + (if 3 < k then biF (autR (z.1 40) s).2.1 3 * rnB (autR (z.1 40) s) (z.1 43) (z.1 44) (biF E) n 0 3 else 0) →
        SW 198 [some (vR 39), some (vI s), none, some (vL x), none, some (vI (k : Int)), none] z' := by
      intro m
      induction m using Nat.strongRecOn with
      | _ m ih =>
        intro k z' x hk f1 o1 hx
        have g40 := f1.1 40 (by simp)
        refine hc 20 _ _ _ fun _ _ => ?_
        simp only [pvSt1]
        simp only [g40, gi, pvE_iconst, pvE_istore_n3, pvS1, List.length_cons, List.length_nil, pvClr_i, pvClr_r, pvClr_l, pvClr_d, pvClr_f, pvClr_n, pvE_iload_n3, pvLI_s, pvLd, pvE_icmp_ge, pvE_aload_n0, pvLA_s, pvE_getfield, pvGf_0, pvGf_1, pvGf_2, fX10_35, pvSh_0, pvSh_1, pvSh_2, pvSh_3, pvSh_4, pvSh_5, pvSh_6, pvSh_7, pvSh_8, pvSh_9, pvSh_10, pvSh_11, pvSh_12, pvSh_13, pvSh_14, pvSh_15, pvSh_16, pvSh_17, pvSh_18, pvSh_19, pvSh_20, pvSh_21, pvSh_22, pvSh_23, pvSh_24, pvSh_25, pvSh_26, pvSh_27, pvSh_28, pvSh_29, pvSh_30, pvSh_31, pvSh_32, pvSh_33, pvSh_34, pvSh_35, pvSh_36, pvSh_37, pvSh_38, pvSh_39, pvSh_40, pvSh_41, pvSh_42, pvSh_43, pvSh_44, pvSh_45, pvSh_46, pvSh_47, pvSh_48, pvSh_49, pvSh_50, pvSh_51, pvSh_52, pvSh_53, pvSh_54, pvSh_55, pvSh_56, pvSh_57, pvSh_58, pvSh_59, pvRf_0_0, pvRf_0_1, pvRf_0_2, pvRf_0_3, pvRf_0_4, pvRf_0_5, pvRf_0_6, pvRf_0_7, pvRf_0_8, pvRf_0_9, pvRf_0_10, pvRf_1_0, pvRf_3_0, pvRf_5_0, pvRf_5_1, pvRf_5_2, pvRf_9_0, pvRf_9_1, pvRf_9_2, pvRf_13_0, pvRf_13_1, pvRf_13_2, pvRf_17_0, pvRf_17_2, pvRf_20_0, pvRf_20_1, pvRf_20_2, pvRf_24_0, pvRf_24_1, pvRf_24_2, pvRf_28_0, pvRf_28_1, pvRf_28_2, pvRf_28_3, pvRf_33_0, pvRf_33_1, pvRf_36_0, pvRf_36_1, pvRf_39_0, pvRf_39_1, pvRf_39_2, pvRf_39_5, pvRf_39_6, pvRf_39_9, pvRf_39_13, pvRf_39_15, pvRf_39_16, pvRf_39_17, pvRf_39_19, pvRf_39_20, pvRf_39_22, pvRf_39_23, pvRf_39_24, pvRf_39_25, pvRf_39_29, pvRf_39_30, fX10_158, pvE_imul, pvE_iadd, pvE_iload_n2, pvE_if_eq, fX10_7, pvE_sipush, pvE_iload_n1, pvE_iaload, pvAI, pvE_ishr, pvE_iand, pvE_if_ne, pvE_lconst0, pvE_goto, pvE_lconst1, pvE_lastore, pvAL, pvE_iinc, pvIc_s, pvE_isub, pvE_if_lt, pvE_invokevirtual, pvC1_s, pvC2_s, pvAf_v, pvAf_x, pvPop, pvCs, pvCat, pvPush, aX10_countsRuns_170, pvE_istore, pvE_iload, pvE_dup2, pvE_laload, fX10_22, aX10_countsRuns_176, pvE_invokestatic (h0 := eX10_130), aX10_countsRuns_130, pvE_ladd, pvE_lstore_n3, pvS2, pvE_lload_n3, pvLL_s, pvE_icmp_ne, pvE_lreturn, bX10_countsRuns_0, uX10_countsRuns_0, bX10_countsRuns_2, uX10_countsRuns_2, bX10_countsRuns_46, uX10_countsRuns_46, bX10_countsRuns_47, uX10_countsRuns_47, bX10_countsRuns_54, uX10_countsRuns_54, bX10_countsRuns_61, uX10_countsRuns_61, bX10_countsRuns_75, uX10_countsRuns_75, bX10_countsRuns_96, uX10_countsRuns_96, bX10_countsRuns_172, uX10_countsRuns_172, bX10_countsRuns_173, uX10_countsRuns_173, bX10_countsRuns_181, uX10_countsRuns_181, bX10_countsRuns_187, uX10_countsRuns_187, bX10_countsRuns_193, uX10_countsRuns_193, bX10_countsRuns_198, uX10_countsRuns_198, bX10_countsRuns_234, uX10_countsRuns_234, bX10_countsRuns_235, uX10_countsRuns_235, bX10_countsRuns_243, uX10_countsRuns_243, pvMk_t, pvMk_f, pvMk_n, pvRecv_r, pvUp_nl, pvUp_same, pvUp_ap, pvSt_ap, pvX_c, pvX_ms, pvX_mn, pvE_nil, pvEn_i, pvEn_r, pvEn_l, pvEn_0, pvEn_s, pvRt, pvRv, pvTh, pvKc, pvGo, pvTgt, Int.toNat_natCast, false_and, and_false, true_and, and_true, if_true, if_false, reduceIte, reduceCtorEq, forall_const, false_or, or_false, true_or, or_true, ne_eq, not_true_eq_false, not_false_eq_true, implies_true, false_implies, Nat.reduceAdd, Nat.reduceSub, Nat.reduceMul, Nat.reduceEqDiff, Nat.reduceLT, Nat.reduceLeDiff, Int.reduceAdd, Int.reduceSub, Int.reduceMul, Int.reduceNeg, Int.reduceToNat, Int.reduceLE, Int.reduceLT, Int.reduceEq, Int.reduceNe, and_self]
        by_cases hx4 : 4 ≤ k
        · have q9 := h2 z' f1 (fun i m q h1 h2 => o1 i m q (by omega) h2)
          rw [show ruF (autR (z.1 40) s) (z.1 43) (z.1 44) n E = x by rw [hx, if_pos (by omega), if_pos (by omega), if_pos (by omega), if_pos (by omega)]; rfl] at q9
          (repeat' (first | with_reducible apply And.intro | intro _))
          all_goals first
            | omega
            | exact q9
        · have ek := o1 0 n k (by omega) (by omega)
          rw [show 4 * 0 + k = k by omega] at ek
          have hb := bt_eq (s := (autR (z.1 40) s).2.1) (q := (k : Int)) (by omega)
          have q9 := ih (m - 1) (by omega) (k + 1) z' (x + biF (autR (z.1 40) s).2.1 (k : Int) * rnB (autR (z.1 40) s) (z.1 43) (z.1 44) (biF E) n 0 (k : Int)) (by omega) f1 o1 (by
            rw [hx]
            rcases (show k = 0 ∨ k = 1 ∨ k = 2 ∨ k = 3 by omega) with rfl | rfl | rfl | rfl <;> simp)
          have bb : biF (autR (z.1 40) s).2.1 (k : Int) = if btF (autR (z.1 40) s).2.1 (k : Int) then 1 else 0 := rfl
          rw [hb, ek]
          cases hbt : btF (autR (z.1 40) s).2.1 (k : Int)
          · rw [bb, hbt] at q9
            simp only [Bool.false_eq_true, if_false, reduceIte, Int.zero_mul] at q9 ⊢
            (repeat' (first | with_reducible apply And.intro | intro _))
            all_goals first
              | omega
              | contradiction
              | exact q9
          · rw [bb, hbt] at q9
            simp only [if_true, reduceIte, Int.one_mul] at q9 ⊢
            (repeat' (first | with_reducible apply And.intro | intro _))
            all_goals first
              | omega
              | contradiction
              | exact q9
    have outer : ∀ (i m : Nat) (z' : pvM), i + m = n → frF [] [47] z z' → (∀ (i' m' q : Nat), i' + m' = n → i ≤ i' → q < 4 → z'.2.1 47 (4 * i' + q) = rnB (autR (z.1 40) s) (z.1 43) (z.1 44) (biF E) m' i' (q : Int)) →
        SW 61 [some (vR 39), some (vI s), none, some (vI ((i : Int) - 1)), none, none, none] z' := by
      intro i
      induction i with
      | zero =>
        intro m z' hk f1 o1
        have q9 := sum 4 0 z' 0 rfl f1 (fun i' m' q h1 h2 => o1 i' m' q h1 (Nat.zero_le _) h2) (by simp)
        refine hc 20 _ _ _ fun _ _ => ?_
        simp only [pvSt1]
        simp only [C_X10_reads, pvE_iconst, pvE_istore_n3, pvS1, List.length_cons, List.length_nil, pvClr_i, pvClr_r, pvClr_l, pvClr_d, pvClr_f, pvClr_n, pvE_iload_n3, pvLI_s, pvLd, pvE_icmp_ge, pvE_aload_n0, pvLA_s, pvE_getfield, pvGf_0, pvGf_1, pvGf_2, fX10_35, pvSh_0, pvSh_1, pvSh_2, pvSh_3, pvSh_4, pvSh_5, pvSh_6, pvSh_7, pvSh_8, pvSh_9, pvSh_10, pvSh_11, pvSh_12, pvSh_13, pvSh_14, pvSh_15, pvSh_16, pvSh_17, pvSh_18, pvSh_19, pvSh_20, pvSh_21, pvSh_22, pvSh_23, pvSh_24, pvSh_25, pvSh_26, pvSh_27, pvSh_28, pvSh_29, pvSh_30, pvSh_31, pvSh_32, pvSh_33, pvSh_34, pvSh_35, pvSh_36, pvSh_37, pvSh_38, pvSh_39, pvSh_40, pvSh_41, pvSh_42, pvSh_43, pvSh_44, pvSh_45, pvSh_46, pvSh_47, pvSh_48, pvSh_49, pvSh_50, pvSh_51, pvSh_52, pvSh_53, pvSh_54, pvSh_55, pvSh_56, pvSh_57, pvSh_58, pvSh_59, pvRf_0_0, pvRf_0_1, pvRf_0_2, pvRf_0_3, pvRf_0_4, pvRf_0_5, pvRf_0_6, pvRf_0_7, pvRf_0_8, pvRf_0_9, pvRf_0_10, pvRf_1_0, pvRf_3_0, pvRf_5_0, pvRf_5_1, pvRf_5_2, pvRf_9_0, pvRf_9_1, pvRf_9_2, pvRf_13_0, pvRf_13_1, pvRf_13_2, pvRf_17_0, pvRf_17_2, pvRf_20_0, pvRf_20_1, pvRf_20_2, pvRf_24_0, pvRf_24_1, pvRf_24_2, pvRf_28_0, pvRf_28_1, pvRf_28_2, pvRf_28_3, pvRf_33_0, pvRf_33_1, pvRf_36_0, pvRf_36_1, pvRf_39_0, pvRf_39_1, pvRf_39_2, pvRf_39_5, pvRf_39_6, pvRf_39_9, pvRf_39_13, pvRf_39_15, pvRf_39_16, pvRf_39_17, pvRf_39_19, pvRf_39_20, pvRf_39_22, pvRf_39_23, pvRf_39_24, pvRf_39_25, pvRf_39_29, pvRf_39_30, fX10_158, pvE_imul, pvE_iadd, pvE_iload_n2, pvE_if_eq, fX10_7, pvE_sipush, pvE_iload_n1, pvE_iaload, pvAI, pvE_ishr, pvE_iand, pvE_if_ne, pvE_lconst0, pvE_goto, pvE_lconst1, pvE_lastore, pvAL, pvE_iinc, pvIc_s, pvE_isub, pvE_if_lt, pvE_invokevirtual, pvC1_s, pvC2_s, pvAf_v, pvAf_x, pvPop, pvCs, pvCat, pvPush, aX10_countsRuns_170, pvE_istore, pvE_iload, pvE_dup2, pvE_laload, fX10_22, aX10_countsRuns_176, pvE_invokestatic (h0 := eX10_130), aX10_countsRuns_130, pvE_ladd, pvE_lstore_n3, pvS2, pvE_lload_n3, pvLL_s, pvE_icmp_ne, pvE_lreturn, bX10_countsRuns_0, uX10_countsRuns_0, bX10_countsRuns_2, uX10_countsRuns_2, bX10_countsRuns_46, uX10_countsRuns_46, bX10_countsRuns_47, uX10_countsRuns_47, bX10_countsRuns_54, uX10_countsRuns_54, bX10_countsRuns_61, uX10_countsRuns_61, bX10_countsRuns_75, uX10_countsRuns_75, bX10_countsRuns_96, uX10_countsRuns_96, bX10_countsRuns_172, uX10_countsRuns_172, bX10_countsRuns_173, uX10_countsRuns_173, bX10_countsRuns_181, uX10_countsRuns_181, bX10_countsRuns_187, uX10_countsRuns_187, bX10_countsRuns_193, uX10_countsRuns_193, bX10_countsRuns_198, uX10_countsRuns_198, bX10_countsRuns_234, uX10_countsRuns_234, bX10_countsRuns_235, uX10_countsRuns_235, bX10_countsRuns_243, uX10_countsRuns_243, pvMk_t, pvMk_f, pvMk_n, pvRecv_r, pvUp_nl, pvUp_same, pvUp_ap, pvSt_ap, pvX_c, pvX_ms, pvX_mn, pvE_nil, pvEn_i, pvEn_r, pvEn_l, pvEn_0, pvEn_s, pvRt, pvRv, pvTh, pvKc, pvGo, pvTgt, Int.toNat_natCast, false_and, and_false, true_and, and_true, if_true, if_false, reduceIte, reduceCtorEq, forall_const, false_or, or_false, true_or, or_true, ne_eq, not_true_eq_false, not_false_eq_true, implies_true, false_implies, Nat.reduceAdd, Nat.reduceSub, Nat.reduceMul, Nat.reduceEqDiff, Nat.reduceLT, Nat.reduceLeDiff, Int.reduceAdd, Int.reduceSub, Int.reduceMul, Int.reduceNeg, Int.reduceToNat, Int.reduceLE, Int.reduceLT, Int.reduceEq, Int.reduceNe, and_self]
        (repeat' (first | with_reducible apply And.intro | intro _))
        all_goals first
          | omega
          | exact q9
      | succ i ih =>
        intro m z' hk f1 o1
        have ei : ((i + 1 : Nat) : Int) - 1 = i := by omega
        have hwi := hd.2 i (by omega)
        have hvi := psF_r (v := vaF (z.1 43) (z.1 44) i) (d := z.1 43 i) (by have := vaF_r hd i (by omega); omega)
        rw [ei]
        have mid : ∀ (mq q : Nat) (z' : pvM), q + mq = 4 → frF [] [47] z z' → (∀ (i' m' q : Nat), i' + m' = n → i + 1 ≤ i' → q < 4 → z'.2.1 47 (4 * i' + q) = rnB (autR (z.1 40) s) (z.1 43) (z.1 44) (biF E) m' i' (q : Int)) → (∀ q' : Nat, q' < q → z'.2.1 47 (4 * i + q') = rnB (autR (z.1 40) s) (z.1 43) (z.1 44) (biF E) (m + 1) i (q' : Int)) →
            SW 75 [some (vR 39), some (vI s), none, some (vI (i : Int)), some (vI (psF (vaF (z.1 43) (z.1 44) i) (z.1 43 i))), some (vI (q : Int)), none] z' := by
          intro mq
          induction mq using Nat.strongRecOn with
          | _ mq ihq =>
            intro q z' hq f1 o1 o2
            have inner : ∀ (mt t : Nat) (z' : pvM), (t : Int) + mt = (autR (z.1 40) s).1 → q < 4 → frF [] [47] z z' → (∀ (i' m' q : Nat), i' + m' = n → i + 1 ≤ i' → q < 4 → z'.2.1 47 (4 * i' + q) = rnB (autR (z.1 40) s) (z.1 43) (z.1 44) (biF E) m' i' (q : Int)) → (∀ q' : Nat, q' < q → z'.2.1 47 (4 * i + q') = rnB (autR (z.1 40) s) (z.1 43) (z.1 44) (biF E) (m + 1) i (q' : Int)) →
                z'.2.1 47 (4 * i + q) = rnS (autR (z.1 40) s).2.2.2 (z.1 44 i) (psF (vaF (z.1 43) (z.1 44) i) (z.1 43 i)) (rnB (autR (z.1 40) s) (z.1 43) (z.1 44) (biF E) m (i + 1)) t (q : Int) →
                SW 96 [some (vR 39), some (vI s), none, some (vI (i : Int)), some (vI (psF (vaF (z.1 43) (z.1 44) i) (z.1 43 i))), some (vI (q : Int)), some (vI (t : Int))] z' := by
              intro mt
              induction mt using Nat.strongRecOn with
              | _ mt iht =>
                intro t z' ht hq4 f1 o1 o2 o3
                have g39 := f1.1 39 (by simp)
                have g40 := f1.1 40 (by simp)
                have g43 := f1.1 43 (by simp)
                have g44 := f1.1 44 (by simp)
                have n1 : (4 * (i : Int) + (q : Int)).toNat = 4 * i + q := by omega
                refine hc 20 _ _ _ fun _ _ => ?_
                simp only [pvSt1]
                simp only [C_X10_goes, C_X10_at, g39, g40, g43, g44, gn, n1, pvE_iconst, pvE_istore_n3, pvS1, List.length_cons, List.length_nil, pvClr_i, pvClr_r, pvClr_l, pvClr_d, pvClr_f, pvClr_n, pvE_iload_n3, pvLI_s, pvLd, pvE_icmp_ge, pvE_aload_n0, pvLA_s, pvE_getfield, pvGf_0, pvGf_1, pvGf_2, fX10_35, pvSh_0, pvSh_1, pvSh_2, pvSh_3, pvSh_4, pvSh_5, pvSh_6, pvSh_7, pvSh_8, pvSh_9, pvSh_10, pvSh_11, pvSh_12, pvSh_13, pvSh_14, pvSh_15, pvSh_16, pvSh_17, pvSh_18, pvSh_19, pvSh_20, pvSh_21, pvSh_22, pvSh_23, pvSh_24, pvSh_25, pvSh_26, pvSh_27, pvSh_28, pvSh_29, pvSh_30, pvSh_31, pvSh_32, pvSh_33, pvSh_34, pvSh_35, pvSh_36, pvSh_37, pvSh_38, pvSh_39, pvSh_40, pvSh_41, pvSh_42, pvSh_43, pvSh_44, pvSh_45, pvSh_46, pvSh_47, pvSh_48, pvSh_49, pvSh_50, pvSh_51, pvSh_52, pvSh_53, pvSh_54, pvSh_55, pvSh_56, pvSh_57, pvSh_58, pvSh_59, pvRf_0_0, pvRf_0_1, pvRf_0_2, pvRf_0_3, pvRf_0_4, pvRf_0_5, pvRf_0_6, pvRf_0_7, pvRf_0_8, pvRf_0_9, pvRf_0_10, pvRf_1_0, pvRf_3_0, pvRf_5_0, pvRf_5_1, pvRf_5_2, pvRf_9_0, pvRf_9_1, pvRf_9_2, pvRf_13_0, pvRf_13_1, pvRf_13_2, pvRf_17_0, pvRf_17_2, pvRf_20_0, pvRf_20_1, pvRf_20_2, pvRf_24_0, pvRf_24_1, pvRf_24_2, pvRf_28_0, pvRf_28_1, pvRf_28_2, pvRf_28_3, pvRf_33_0, pvRf_33_1, pvRf_36_0, pvRf_36_1, pvRf_39_0, pvRf_39_1, pvRf_39_2, pvRf_39_5, pvRf_39_6, pvRf_39_9, pvRf_39_13, pvRf_39_15, pvRf_39_16, pvRf_39_17, pvRf_39_19, pvRf_39_20, pvRf_39_22, pvRf_39_23, pvRf_39_24, pvRf_39_25, pvRf_39_29, pvRf_39_30, fX10_158, pvE_imul, pvE_iadd, pvE_iload_n2, pvE_if_eq, fX10_7, pvE_sipush, pvE_iload_n1, pvE_iaload, pvAI, pvE_ishr, pvE_iand, pvE_if_ne, pvE_lconst0, pvE_goto, pvE_lconst1, pvE_lastore, pvAL, pvE_iinc, pvIc_s, pvE_isub, pvE_if_lt, pvE_invokevirtual, pvC1_s, pvC2_s, pvAf_v, pvAf_x, pvPop, pvCs, pvCat, pvPush, aX10_countsRuns_170, pvE_istore, pvE_iload, pvE_dup2, pvE_laload, fX10_22, aX10_countsRuns_176, pvE_invokestatic (h0 := eX10_130), aX10_countsRuns_130, pvE_ladd, pvE_lstore_n3, pvS2, pvE_lload_n3, pvLL_s, pvE_icmp_ne, pvE_lreturn, bX10_countsRuns_0, uX10_countsRuns_0, bX10_countsRuns_2, uX10_countsRuns_2, bX10_countsRuns_46, uX10_countsRuns_46, bX10_countsRuns_47, uX10_countsRuns_47, bX10_countsRuns_54, uX10_countsRuns_54, bX10_countsRuns_61, uX10_countsRuns_61, bX10_countsRuns_75, uX10_countsRuns_75, bX10_countsRuns_96, uX10_countsRuns_96, bX10_countsRuns_172, uX10_countsRuns_172, bX10_countsRuns_173, uX10_countsRuns_173, bX10_countsRuns_181, uX10_countsRuns_181, bX10_countsRuns_187, uX10_countsRuns_187, bX10_countsRuns_193, uX10_countsRuns_193, bX10_countsRuns_198, uX10_countsRuns_198, bX10_countsRuns_234, uX10_countsRuns_234, bX10_countsRuns_235, uX10_countsRuns_235, bX10_countsRuns_243, uX10_countsRuns_243, pvMk_t, pvMk_f, pvMk_n, pvRecv_r, pvUp_nl, pvUp_same, pvUp_ap, pvSt_ap, pvX_c, pvX_ms, pvX_mn, pvE_nil, pvEn_i, pvEn_r, pvEn_l, pvEn_0, pvEn_s, pvRt, pvRv, pvTh, pvKc, pvGo, pvTgt, Int.toNat_natCast, false_and, and_false, true_and, and_true, if_true, if_false, reduceIte, reduceCtorEq, forall_const, false_or, or_false, true_or, or_true, ne_eq, not_true_eq_false, not_false_eq_true, implies_true, false_implies, Nat.reduceAdd, Nat.reduceSub, Nat.reduceMul, Nat.reduceEqDiff, Nat.reduceLT, Nat.reduceLeDiff, Int.reduceAdd, Int.reduceSub, Int.reduceMul, Int.reduceNeg, Int.reduceToNat, Int.reduceLE, Int.reduceLT, Int.reduceEq, Int.reduceNe, and_self]
                by_cases htn : (autR (z.1 40) s).1 ≤ t
                · have q9 := ihq (mq - 1) (by omega) (q + 1) z' (by omega) f1 o1 (fun q' hq' => by
                    by_cases e : q' = q
                    · subst e
                      rw [o3, show t = (autR (z.1 40) s).1.toNat by omega]
                      rfl
                    · exact o2 q' (by omega))
                  (repeat' (first | with_reducible apply And.intro | intro _))
                  all_goals first
                    | omega
                    | exact q9
                · have hT := autR_w hw (show (t : Int) < (autR (z.1 40) s).1 by omega)
                  have e := autR_T (show (t : Int) < (autR (z.1 40) s).1 by omega)
                  have e2 : (autR (z.1 40) s).2.2.2 t 2 = rT (z.1 40) s t 2 := by rw [e, nrT_s (by decide)]
                  have g2 : z.1 40 (163 * s + 3 + 16 * (t : Int) + 2).toNat = (autR (z.1 40) s).2.2.2 t 2 := by rw [e2]; exact rT_eq (z.1 40) hs.1 (by omega)
                  have hT2 := hT.2.2.1
                  rw [← e2] at hT2
                  have n2 : (4 * (i : Int) + 4 + (autR (z.1 40) s).2.2.2 t 2).toNat = 4 * (i + 1) + ((autR (z.1 40) s).2.2.2 t 2).toNat := by omega
                  have eR := o1 (i + 1) m ((autR (z.1 40) s).2.2.2 t 2).toNat (by omega) (Nat.le_refl _) (by omega)
                  rw [show ((((autR (z.1 40) s).2.2.2 t 2).toNat : Nat) : Int) = (autR (z.1 40) s).2.2.2 t 2 by omega] at eR
                  have q9 := fun (x : Int) (hx : x = (if (autR (z.1 40) s).2.2.2 t 0 = (q : Int) ∧ (autR (z.1 40) s).2.2.2 t 1 = z.1 44 i ∧ blF ((autR (z.1 40) s).2.2.2 t) (psF (vaF (z.1 43) (z.1 44) i) (z.1 43 i)) < 0 then rnB (autR (z.1 40) s) (z.1 43) (z.1 44) (biF E) m (i + 1) ((autR (z.1 40) s).2.2.2 t 2) else 0)) =>
                    iht (mt - 1) (by omega) (t + 1) (z'.1, pvUp z'.2.1 47 (4 * i + q) (z'.2.1 47 (4 * i + q) + x), z'.2.2) (by omega) hq4 (by (repeat' first | assumption | exact frF_0 | (refine frF_u ?_ (by decide)) | (refine frF_s ?_ (by decide)) | (refine frF_l ?_ (by decide)))) (fun i' m' q' h1 h2 h3 => by simp only [pvUp_ap, true_and]; rw [if_neg (by omega)]; exact o1 i' m' q' h1 h2 h3) (fun q' hq' => by simp only [pvUp_ap, true_and]; rw [if_neg (by omega)]; exact o2 q' hq') (by simp only [pvUp_ap, and_self, if_true, reduceIte]; rw [o3, hx]; rfl)
                  rw [g2, n2, eR]
                  by_cases hg : (autR (z.1 40) s).2.2.2 t 0 = (q : Int) ∧ (autR (z.1 40) s).2.2.2 t 1 = z.1 44 i ∧ blF ((autR (z.1 40) s).2.2.2 t) (psF (vaF (z.1 43) (z.1 44) i) (z.1 43 i)) < 0
                  · have q8 := q9 _ (if_pos hg).symm
                    (repeat' (first | with_reducible apply And.intro | intro _))
                    all_goals first
                      | omega
                      | assumption
                      | contradiction
                      | exact q8
                  · have q8 := q9 _ (if_neg hg).symm
                    (repeat' (first | with_reducible apply And.intro | intro _))
                    all_goals first
                      | omega
                      | assumption
                      | contradiction
                      | exact q8
            have g39 := f1.1 39 (by simp)
            have n1 : (4 * (i : Int) + (q : Int)).toNat = 4 * i + q := by omega
            refine hc 20 _ _ _ fun _ _ => ?_
            simp only [pvSt1]
            simp only [n1, pvE_iconst, pvE_istore_n3, pvS1, List.length_cons, List.length_nil, pvClr_i, pvClr_r, pvClr_l, pvClr_d, pvClr_f, pvClr_n, pvE_iload_n3, pvLI_s, pvLd, pvE_icmp_ge, pvE_aload_n0, pvLA_s, pvE_getfield, pvGf_0, pvGf_1, pvGf_2, fX10_35, pvSh_0, pvSh_1, pvSh_2, pvSh_3, pvSh_4, pvSh_5, pvSh_6, pvSh_7, pvSh_8, pvSh_9, pvSh_10, pvSh_11, pvSh_12, pvSh_13, pvSh_14, pvSh_15, pvSh_16, pvSh_17, pvSh_18, pvSh_19, pvSh_20, pvSh_21, pvSh_22, pvSh_23, pvSh_24, pvSh_25, pvSh_26, pvSh_27, pvSh_28, pvSh_29, pvSh_30, pvSh_31, pvSh_32, pvSh_33, pvSh_34, pvSh_35, pvSh_36, pvSh_37, pvSh_38, pvSh_39, pvSh_40, pvSh_41, pvSh_42, pvSh_43, pvSh_44, pvSh_45, pvSh_46, pvSh_47, pvSh_48, pvSh_49, pvSh_50, pvSh_51, pvSh_52, pvSh_53, pvSh_54, pvSh_55, pvSh_56, pvSh_57, pvSh_58, pvSh_59, pvRf_0_0, pvRf_0_1, pvRf_0_2, pvRf_0_3, pvRf_0_4, pvRf_0_5, pvRf_0_6, pvRf_0_7, pvRf_0_8, pvRf_0_9, pvRf_0_10, pvRf_1_0, pvRf_3_0, pvRf_5_0, pvRf_5_1, pvRf_5_2, pvRf_9_0, pvRf_9_1, pvRf_9_2, pvRf_13_0, pvRf_13_1, pvRf_13_2, pvRf_17_0, pvRf_17_2, pvRf_20_0, pvRf_20_1, pvRf_20_2, pvRf_24_0, pvRf_24_1, pvRf_24_2, pvRf_28_0, pvRf_28_1, pvRf_28_2, pvRf_28_3, pvRf_33_0, pvRf_33_1, pvRf_36_0, pvRf_36_1, pvRf_39_0, pvRf_39_1, pvRf_39_2, pvRf_39_5, pvRf_39_6, pvRf_39_9, pvRf_39_13, pvRf_39_15, pvRf_39_16, pvRf_39_17, pvRf_39_19, pvRf_39_20, pvRf_39_22, pvRf_39_23, pvRf_39_24, pvRf_39_25, pvRf_39_29, pvRf_39_30, fX10_158, pvE_imul, pvE_iadd, pvE_iload_n2, pvE_if_eq, fX10_7, pvE_sipush, pvE_iload_n1, pvE_iaload, pvAI, pvE_ishr, pvE_iand, pvE_if_ne, pvE_lconst0, pvE_goto, pvE_lconst1, pvE_lastore, pvAL, pvE_iinc, pvIc_s, pvE_isub, pvE_if_lt, pvE_invokevirtual, pvC1_s, pvC2_s, pvAf_v, pvAf_x, pvPop, pvCs, pvCat, pvPush, aX10_countsRuns_170, pvE_istore, pvE_iload, pvE_dup2, pvE_laload, fX10_22, aX10_countsRuns_176, pvE_invokestatic (h0 := eX10_130), aX10_countsRuns_130, pvE_ladd, pvE_lstore_n3, pvS2, pvE_lload_n3, pvLL_s, pvE_icmp_ne, pvE_lreturn, bX10_countsRuns_0, uX10_countsRuns_0, bX10_countsRuns_2, uX10_countsRuns_2, bX10_countsRuns_46, uX10_countsRuns_46, bX10_countsRuns_47, uX10_countsRuns_47, bX10_countsRuns_54, uX10_countsRuns_54, bX10_countsRuns_61, uX10_countsRuns_61, bX10_countsRuns_75, uX10_countsRuns_75, bX10_countsRuns_96, uX10_countsRuns_96, bX10_countsRuns_172, uX10_countsRuns_172, bX10_countsRuns_173, uX10_countsRuns_173, bX10_countsRuns_181, uX10_countsRuns_181, bX10_countsRuns_187, uX10_countsRuns_187, bX10_countsRuns_193, uX10_countsRuns_193, bX10_countsRuns_198, uX10_countsRuns_198, bX10_countsRuns_234, uX10_countsRuns_234, bX10_countsRuns_235, uX10_countsRuns_235, bX10_countsRuns_243, uX10_countsRuns_243, pvMk_t, pvMk_f, pvMk_n, pvRecv_r, pvUp_nl, pvUp_same, pvUp_ap, pvSt_ap, pvX_c, pvX_ms, pvX_mn, pvE_nil, pvEn_i, pvEn_r, pvEn_l, pvEn_0, pvEn_s, pvRt, pvRv, pvTh, pvKc, pvGo, pvTgt, Int.toNat_natCast, false_and, and_false, true_and, and_true, if_true, if_false, reduceIte, reduceCtorEq, forall_const, false_or, or_false, true_or, or_true, ne_eq, not_true_eq_false, not_false_eq_true, implies_true, false_implies, Nat.reduceAdd, Nat.reduceSub, Nat.reduceMul, Nat.reduceEqDiff, Nat.reduceLT, Nat.reduceLeDiff, Int.reduceAdd, Int.reduceSub, Int.reduceMul, Int.reduceNeg, Int.reduceToNat, Int.reduceLE, Int.reduceLT, Int.reduceEq, Int.reduceNe, and_self]
            by_cases hx : 4 ≤ q
            · have q9 := ih (m + 1) z' (by omega) f1 (fun i' m' q h1 h2 h3 => by
                by_cases e : i' = i
                · subst e
                  obtain rfl : m' = m + 1 := by omega
                  exact o2 q (by omega)
                · exact o1 i' m' q h1 (by omega) h3)
              (repeat' (first | with_reducible apply And.intro | intro _))
              all_goals first
                | omega
                | exact q9
            · have q9 := inner (autR (z.1 40) s).1.toNat 0 (z'.1, pvUp z'.2.1 47 (4 * i + q) 0, z'.2.2) (by omega) (by omega) (by (repeat' first | assumption | exact frF_0 | (refine frF_u ?_ (by decide)) | (refine frF_s ?_ (by decide)) | (refine frF_l ?_ (by decide)))) (fun i' m' q' h1 h2 h3 => by simp only [pvUp_ap, true_and]; rw [if_neg (by omega)]; exact o1 i' m' q' h1 h2 h3) (fun q' hq' => by simp only [pvUp_ap, true_and]; rw [if_neg (by omega)]; exact o2 q' hq') (by simp [pvUp_ap, rnS])
              (repeat' (first | with_reducible apply And.intro | intro _))
              all_goals first
                | omega
                | exact q9
        have g39 := f1.1 39 (by simp)
        have g43 := f1.1 43 (by simp)
        have g44 := f1.1 44 (by simp)
        have q9 := mid 4 0 z' rfl f1 o1 (fun q' hq' => absurd hq' (Nat.not_lt_zero _))
        refine hc 20 _ _ _ fun _ _ => ?_
        simp only [pvSt1]
        simp only [C_X10_reads, g39, g43, g44, en, pvE_iconst, pvE_istore_n3, pvS1, List.length_cons, List.length_nil, pvClr_i, pvClr_r, pvClr_l, pvClr_d, pvClr_f, pvClr_n, pvE_iload_n3, pvLI_s, pvLd, pvE_icmp_ge, pvE_aload_n0, pvLA_s, pvE_getfield, pvGf_0, pvGf_1, pvGf_2, fX10_35, pvSh_0, pvSh_1, pvSh_2, pvSh_3, pvSh_4, pvSh_5, pvSh_6, pvSh_7, pvSh_8, pvSh_9, pvSh_10, pvSh_11, pvSh_12, pvSh_13, pvSh_14, pvSh_15, pvSh_16, pvSh_17, pvSh_18, pvSh_19, pvSh_20, pvSh_21, pvSh_22, pvSh_23, pvSh_24, pvSh_25, pvSh_26, pvSh_27, pvSh_28, pvSh_29, pvSh_30, pvSh_31, pvSh_32, pvSh_33, pvSh_34, pvSh_35, pvSh_36, pvSh_37, pvSh_38, pvSh_39, pvSh_40, pvSh_41, pvSh_42, pvSh_43, pvSh_44, pvSh_45, pvSh_46, pvSh_47, pvSh_48, pvSh_49, pvSh_50, pvSh_51, pvSh_52, pvSh_53, pvSh_54, pvSh_55, pvSh_56, pvSh_57, pvSh_58, pvSh_59, pvRf_0_0, pvRf_0_1, pvRf_0_2, pvRf_0_3, pvRf_0_4, pvRf_0_5, pvRf_0_6, pvRf_0_7, pvRf_0_8, pvRf_0_9, pvRf_0_10, pvRf_1_0, pvRf_3_0, pvRf_5_0, pvRf_5_1, pvRf_5_2, pvRf_9_0, pvRf_9_1, pvRf_9_2, pvRf_13_0, pvRf_13_1, pvRf_13_2, pvRf_17_0, pvRf_17_2, pvRf_20_0, pvRf_20_1, pvRf_20_2, pvRf_24_0, pvRf_24_1, pvRf_24_2, pvRf_28_0, pvRf_28_1, pvRf_28_2, pvRf_28_3, pvRf_33_0, pvRf_33_1, pvRf_36_0, pvRf_36_1, pvRf_39_0, pvRf_39_1, pvRf_39_2, pvRf_39_5, pvRf_39_6, pvRf_39_9, pvRf_39_13, pvRf_39_15, pvRf_39_16, pvRf_39_17, pvRf_39_19, pvRf_39_20, pvRf_39_22, pvRf_39_23, pvRf_39_24, pvRf_39_25, pvRf_39_29, pvRf_39_30, fX10_158, pvE_imul, pvE_iadd, pvE_iload_n2, pvE_if_eq, fX10_7, pvE_sipush, pvE_iload_n1, pvE_iaload, pvAI, pvE_ishr, pvE_iand, pvE_if_ne, pvE_lconst0, pvE_goto, pvE_lconst1, pvE_lastore, pvAL, pvE_iinc, pvIc_s, pvE_isub, pvE_if_lt, pvE_invokevirtual, pvC1_s, pvC2_s, pvAf_v, pvAf_x, pvPop, pvCs, pvCat, pvPush, aX10_countsRuns_170, pvE_istore, pvE_iload, pvE_dup2, pvE_laload, fX10_22, aX10_countsRuns_176, pvE_invokestatic (h0 := eX10_130), aX10_countsRuns_130, pvE_ladd, pvE_lstore_n3, pvS2, pvE_lload_n3, pvLL_s, pvE_icmp_ne, pvE_lreturn, bX10_countsRuns_0, uX10_countsRuns_0, bX10_countsRuns_2, uX10_countsRuns_2, bX10_countsRuns_46, uX10_countsRuns_46, bX10_countsRuns_47, uX10_countsRuns_47, bX10_countsRuns_54, uX10_countsRuns_54, bX10_countsRuns_61, uX10_countsRuns_61, bX10_countsRuns_75, uX10_countsRuns_75, bX10_countsRuns_96, uX10_countsRuns_96, bX10_countsRuns_172, uX10_countsRuns_172, bX10_countsRuns_173, uX10_countsRuns_173, bX10_countsRuns_181, uX10_countsRuns_181, bX10_countsRuns_187, uX10_countsRuns_187, bX10_countsRuns_193, uX10_countsRuns_193, bX10_countsRuns_198, uX10_countsRuns_198, bX10_countsRuns_234, uX10_countsRuns_234, bX10_countsRuns_235, uX10_countsRuns_235, bX10_countsRuns_243, uX10_countsRuns_243, pvMk_t, pvMk_f, pvMk_n, pvRecv_r, pvUp_nl, pvUp_same, pvUp_ap, pvSt_ap, pvX_c, pvX_ms, pvX_mn, pvE_nil, pvEn_i, pvEn_r, pvEn_l, pvEn_0, pvEn_s, pvRt, pvRv, pvTh, pvKc, pvGo, pvTgt, Int.toNat_natCast, false_and, and_false, true_and, and_true, if_true, if_false, reduceIte, reduceCtorEq, forall_const, false_or, or_false, true_or, or_true, ne_eq, not_true_eq_false, not_false_eq_true, implies_true, false_implies, Nat.reduceAdd, Nat.reduceSub, Nat.reduceMul, Nat.reduceEqDiff, Nat.reduceLT, Nat.reduceLeDiff, Int.reduceAdd, Int.reduceSub, Int.reduceMul, Int.reduceNeg, Int.reduceToNat, Int.reduceLE, Int.reduceLT, Int.reduceEq, Int.reduceNe, and_self]
        rw [en] at hd
        (repeat' (first | with_reducible apply And.intro | intro _))
        all_goals first
          | omega
          | exact hd
          | exact q9
    have lay : ∀ (m k : Nat) (z' : pvM), k + m = 4 → frF [] [47] z z' → (∀ q : Nat, q < k → z'.2.1 47 (4 * n + q) = biF E (q : Int)) →
        SW 2 [some (vR 39), some (vI s), some (vI acc), some (vI (k : Int)), none, none, none] z' := by
      intro m
      induction m using Nat.strongRecOn with
      | _ m ih =>
        intro k z' hk f1 o1
        have g39 := f1.1 39 (by simp)
        have g40 := f1.1 40 (by simp)
        have n1 : (4 * (n : Int) + (k : Int)).toNat = 4 * n + k := by omega
        have q8 := outer n 0 z' (by omega) f1
        refine hc 20 _ _ _ fun _ _ => ?_
        simp only [pvSt1]
        simp only [g39, g40, gf, en, n1, pvE_iconst, pvE_istore_n3, pvS1, List.length_cons, List.length_nil, pvClr_i, pvClr_r, pvClr_l, pvClr_d, pvClr_f, pvClr_n, pvE_iload_n3, pvLI_s, pvLd, pvE_icmp_ge, pvE_aload_n0, pvLA_s, pvE_getfield, pvGf_0, pvGf_1, pvGf_2, fX10_35, pvSh_0, pvSh_1, pvSh_2, pvSh_3, pvSh_4, pvSh_5, pvSh_6, pvSh_7, pvSh_8, pvSh_9, pvSh_10, pvSh_11, pvSh_12, pvSh_13, pvSh_14, pvSh_15, pvSh_16, pvSh_17, pvSh_18, pvSh_19, pvSh_20, pvSh_21, pvSh_22, pvSh_23, pvSh_24, pvSh_25, pvSh_26, pvSh_27, pvSh_28, pvSh_29, pvSh_30, pvSh_31, pvSh_32, pvSh_33, pvSh_34, pvSh_35, pvSh_36, pvSh_37, pvSh_38, pvSh_39, pvSh_40, pvSh_41, pvSh_42, pvSh_43, pvSh_44, pvSh_45, pvSh_46, pvSh_47, pvSh_48, pvSh_49, pvSh_50, pvSh_51, pvSh_52, pvSh_53, pvSh_54, pvSh_55, pvSh_56, pvSh_57, pvSh_58, pvSh_59, pvRf_0_0, pvRf_0_1, pvRf_0_2, pvRf_0_3, pvRf_0_4, pvRf_0_5, pvRf_0_6, pvRf_0_7, pvRf_0_8, pvRf_0_9, pvRf_0_10, pvRf_1_0, pvRf_3_0, pvRf_5_0, pvRf_5_1, pvRf_5_2, pvRf_9_0, pvRf_9_1, pvRf_9_2, pvRf_13_0, pvRf_13_1, pvRf_13_2, pvRf_17_0, pvRf_17_2, pvRf_20_0, pvRf_20_1, pvRf_20_2, pvRf_24_0, pvRf_24_1, pvRf_24_2, pvRf_28_0, pvRf_28_1, pvRf_28_2, pvRf_28_3, pvRf_33_0, pvRf_33_1, pvRf_36_0, pvRf_36_1, pvRf_39_0, pvRf_39_1, pvRf_39_2, pvRf_39_5, pvRf_39_6, pvRf_39_9, pvRf_39_13, pvRf_39_15, pvRf_39_16, pvRf_39_17, pvRf_39_19, pvRf_39_20, pvRf_39_22, pvRf_39_23, pvRf_39_24, pvRf_39_25, pvRf_39_29, pvRf_39_30, fX10_158, pvE_imul, pvE_iadd, pvE_iload_n2, pvE_if_eq, fX10_7, pvE_sipush, pvE_iload_n1, pvE_iaload, pvAI, pvE_ishr, pvE_iand, pvE_if_ne, pvE_lconst0, pvE_goto, pvE_lconst1, pvE_lastore, pvAL, pvE_iinc, pvIc_s, pvE_isub, pvE_if_lt, pvE_invokevirtual, pvC1_s, pvC2_s, pvAf_v, pvAf_x, pvPop, pvCs, pvCat, pvPush, aX10_countsRuns_170, pvE_istore, pvE_iload, pvE_dup2, pvE_laload, fX10_22, aX10_countsRuns_176, pvE_invokestatic (h0 := eX10_130), aX10_countsRuns_130, pvE_ladd, pvE_lstore_n3, pvS2, pvE_lload_n3, pvLL_s, pvE_icmp_ne, pvE_lreturn, bX10_countsRuns_0, uX10_countsRuns_0, bX10_countsRuns_2, uX10_countsRuns_2, bX10_countsRuns_46, uX10_countsRuns_46, bX10_countsRuns_47, uX10_countsRuns_47, bX10_countsRuns_54, uX10_countsRuns_54, bX10_countsRuns_61, uX10_countsRuns_61, bX10_countsRuns_75, uX10_countsRuns_75, bX10_countsRuns_96, uX10_countsRuns_96, bX10_countsRuns_172, uX10_countsRuns_172, bX10_countsRuns_173, uX10_countsRuns_173, bX10_countsRuns_181, uX10_countsRuns_181, bX10_countsRuns_187, uX10_countsRuns_187, bX10_countsRuns_193, uX10_countsRuns_193, bX10_countsRuns_198, uX10_countsRuns_198, bX10_countsRuns_234, uX10_countsRuns_234, bX10_countsRuns_235, uX10_countsRuns_235, bX10_countsRuns_243, uX10_countsRuns_243, pvMk_t, pvMk_f, pvMk_n, pvRecv_r, pvUp_nl, pvUp_same, pvUp_ap, pvSt_ap, pvX_c, pvX_ms, pvX_mn, pvE_nil, pvEn_i, pvEn_r, pvEn_l, pvEn_0, pvEn_s, pvRt, pvRv, pvTh, pvKc, pvGo, pvTgt, Int.toNat_natCast, false_and, and_false, true_and, and_true, if_true, if_false, reduceIte, reduceCtorEq, forall_const, false_or, or_false, true_or, or_true, ne_eq, not_true_eq_false, not_false_eq_true, implies_true, false_implies, Nat.reduceAdd, Nat.reduceSub, Nat.reduceMul, Nat.reduceEqDiff, Nat.reduceLT, Nat.reduceLeDiff, Int.reduceAdd, Int.reduceSub, Int.reduceMul, Int.reduceNeg, Int.reduceToNat, Int.reduceLE, Int.reduceLT, Int.reduceEq, Int.reduceNe, and_self]
        by_cases hx : 4 ≤ k
        · have q9 := q8 (fun i' m' q h1 h2 h3 => by
            obtain rfl : i' = n := by omega
            obtain rfl : m' = 0 := by omega
            exact o1 q (by omega))
          (repeat' (first | with_reducible apply And.intro | intro _))
          all_goals first
            | omega
            | exact q9
        · have q9 := fun (x : Int) (hx : x = biF E (k : Int)) => ih (m - 1) (by omega) (k + 1) (z'.1, pvUp z'.2.1 47 (4 * n + k) x, z'.2.2) (by omega) (by (repeat' first | assumption | exact frF_0 | (refine frF_u ?_ (by decide)) | (refine frF_s ?_ (by decide)) | (refine frF_l ?_ (by decide)))) (fun q hq => by
            simp only [pvUp_ap, true_and]
            by_cases e : q = k
            · rw [if_pos (by omega), e]; exact hx
            · rw [if_neg (by omega)]; exact o1 q (by omega))
          rcases ha with rfl | rfl
          · have eE' : E = 15 := by rw [← eE]; rfl
            have q7 := q9 1 (by
              rw [eE']
              rcases (show k = 0 ∨ k = 1 ∨ k = 2 ∨ k = 3 by omega) with rfl | rfl | rfl | rfl <;> decide)
            (repeat' (first | with_reducible apply And.intro | intro _))
            all_goals first
              | omega
              | contradiction
              | exact q7
          · have eE' : E = (autR (z.1 40) s).2.2.1 := by rw [← eE]; rfl
            have hb := bt_eq (s := (autR (z.1 40) s).2.2.1) (q := (k : Int)) (by omega)
            rw [hb]
            cases hbt : btF (autR (z.1 40) s).2.2.1 (k : Int)
            · have q7 := q9 0 (by rw [eE']; unfold biF; rw [hbt]; rfl)
              simp only [Bool.false_eq_true, if_false, reduceIte]
              (repeat' (first | with_reducible apply And.intro | intro _))
              all_goals first
                | omega
                | contradiction
                | exact q7
            · have q7 := q9 1 (by rw [eE']; unfold biF; rw [hbt]; rfl)
              simp only [if_true, reduceIte]
              (repeat' (first | with_reducible apply And.intro | intro _))
              all_goals first
                | omega
                | contradiction
                | exact q7
    refine hc 20 _ _ _ fun _ _ => ?_
    simp only [pvSt1]
    simp only [pvE_iconst, pvE_istore_n3, pvS1, List.length_cons, List.length_nil, pvClr_i, pvClr_r, pvClr_l, pvClr_d, pvClr_f, pvClr_n, pvE_iload_n3, pvLI_s, pvLd, pvE_icmp_ge, pvE_aload_n0, pvLA_s, pvE_getfield, pvGf_0, pvGf_1, pvGf_2, fX10_35, pvSh_0, pvSh_1, pvSh_2, pvSh_3, pvSh_4, pvSh_5, pvSh_6, pvSh_7, pvSh_8, pvSh_9, pvSh_10, pvSh_11, pvSh_12, pvSh_13, pvSh_14, pvSh_15, pvSh_16, pvSh_17, pvSh_18, pvSh_19, pvSh_20, pvSh_21, pvSh_22, pvSh_23, pvSh_24, pvSh_25, pvSh_26, pvSh_27, pvSh_28, pvSh_29, pvSh_30, pvSh_31, pvSh_32, pvSh_33, pvSh_34, pvSh_35, pvSh_36, pvSh_37, pvSh_38, pvSh_39, pvSh_40, pvSh_41, pvSh_42, pvSh_43, pvSh_44, pvSh_45, pvSh_46, pvSh_47, pvSh_48, pvSh_49, pvSh_50, pvSh_51, pvSh_52, pvSh_53, pvSh_54, pvSh_55, pvSh_56, pvSh_57, pvSh_58, pvSh_59, pvRf_0_0, pvRf_0_1, pvRf_0_2, pvRf_0_3, pvRf_0_4, pvRf_0_5, pvRf_0_6, pvRf_0_7, pvRf_0_8, pvRf_0_9, pvRf_0_10, pvRf_1_0, pvRf_3_0, pvRf_5_0, pvRf_5_1, pvRf_5_2, pvRf_9_0, pvRf_9_1, pvRf_9_2, pvRf_13_0, pvRf_13_1, pvRf_13_2, pvRf_17_0, pvRf_17_2, pvRf_20_0, pvRf_20_1, pvRf_20_2, pvRf_24_0, pvRf_24_1, pvRf_24_2, pvRf_28_0, pvRf_28_1, pvRf_28_2, pvRf_28_3, pvRf_33_0, pvRf_33_1, pvRf_36_0, pvRf_36_1, pvRf_39_0, pvRf_39_1, pvRf_39_2, pvRf_39_5, pvRf_39_6, pvRf_39_9, pvRf_39_13, pvRf_39_15, pvRf_39_16, pvRf_39_17, pvRf_39_19, pvRf_39_20, pvRf_39_22, pvRf_39_23, pvRf_39_24, pvRf_39_25, pvRf_39_29, pvRf_39_30, fX10_158, pvE_imul, pvE_iadd, pvE_iload_n2, pvE_if_eq, fX10_7, pvE_sipush, pvE_iload_n1, pvE_iaload, pvAI, pvE_ishr, pvE_iand, pvE_if_ne, pvE_lconst0, pvE_goto, pvE_lconst1, pvE_lastore, pvAL, pvE_iinc, pvIc_s, pvE_isub, pvE_if_lt, pvE_invokevirtual, pvC1_s, pvC2_s, pvAf_v, pvAf_x, pvPop, pvCs, pvCat, pvPush, aX10_countsRuns_170, pvE_istore, pvE_iload, pvE_dup2, pvE_laload, fX10_22, aX10_countsRuns_176, pvE_invokestatic (h0 := eX10_130), aX10_countsRuns_130, pvE_ladd, pvE_lstore_n3, pvS2, pvE_lload_n3, pvLL_s, pvE_icmp_ne, pvE_lreturn, bX10_countsRuns_0, uX10_countsRuns_0, bX10_countsRuns_2, uX10_countsRuns_2, bX10_countsRuns_46, uX10_countsRuns_46, bX10_countsRuns_47, uX10_countsRuns_47, bX10_countsRuns_54, uX10_countsRuns_54, bX10_countsRuns_61, uX10_countsRuns_61, bX10_countsRuns_75, uX10_countsRuns_75, bX10_countsRuns_96, uX10_countsRuns_96, bX10_countsRuns_172, uX10_countsRuns_172, bX10_countsRuns_173, uX10_countsRuns_173, bX10_countsRuns_181, uX10_countsRuns_181, bX10_countsRuns_187, uX10_countsRuns_187, bX10_countsRuns_193, uX10_countsRuns_193, bX10_countsRuns_198, uX10_countsRuns_198, bX10_countsRuns_234, uX10_countsRuns_234, bX10_countsRuns_235, uX10_countsRuns_235, bX10_countsRuns_243, uX10_countsRuns_243, pvMk_t, pvMk_f, pvMk_n, pvRecv_r, pvUp_nl, pvUp_same, pvUp_ap, pvSt_ap, pvX_c, pvX_ms, pvX_mn, pvE_nil, pvEn_i, pvEn_r, pvEn_l, pvEn_0, pvEn_s, pvRt, pvRv, pvTh, pvKc, pvGo, pvTgt, Int.toNat_natCast, false_and, and_false, true_and, and_true, if_true, if_false, reduceIte, reduceCtorEq, forall_const, false_or, or_false, true_or, or_true, ne_eq, not_true_eq_false, not_false_eq_true, implies_true, false_implies, Nat.reduceAdd, Nat.reduceSub, Nat.reduceMul, Nat.reduceEqDiff, Nat.reduceLT, Nat.reduceLeDiff, Int.reduceAdd, Int.reduceSub, Int.reduceMul, Int.reduceNeg, Int.reduceToNat, Int.reduceLE, Int.reduceLT, Int.reduceEq, Int.reduceNe, and_self]
    (repeat' (first | with_reducible apply And.intro | intro _))
    all_goals first
      | omega
      | exact lay 4 0 z rfl frF_0 (fun q hq => absurd hq (Nat.not_lt_zero _))
  · exact h.elim
/-- the counts of runs laid: from each event and state on -/
def rlF (z : pvM) (s : Int) : Prop := ∀ (i m q : Nat), (i : Int) + m = z.1 39 7 → q < 4 → z.2.1 47 (4 * i + q) = rnB (autR (z.1 40) s) (z.1 43) (z.1 44) (biF (autR (z.1 40) s).2.2.1) m i (q : Int)
def C_X10_runCount : pvC
  | [.inr (.inr (.inl id)), .inl s], z, Q => id = 39 ∧ ((0 ≤ s ∧ s ≤ 1 → WfA (autR (z.1 40) s)) ∧ WdF (z.1 39 7) (z.1 43) (z.1 44)) ∧
      (¬ (0 ≤ s ∧ s ≤ 1) → Q (.inl (some (vL 0))) (pvUp z.1 39 8 1, z.2)) ∧
      (0 ≤ s ∧ s ≤ 1 → ∀ z' : pvM, frF [39] [47] z z' → (∀ j, j ≠ 8 → z'.1 39 j = z.1 39 j) → z'.1 39 8 = 0 → Q (.inl (some (vL (ruF (autR (z.1 40) s) (z.1 43) (z.1 44) (z.1 39 7).toNat 15)))) z')
  | _, _, _ => False
def bX10_runCount : Nat → List (Instr × Nat)
  | 0 => [(.aload_n 0, 1), (.iload_n 1, 1), (.invokestatic 80, 3), (.ifCond .eq 7, 3), (.iconst 0, 1), (.goto 4, 3)]
  | 12 => [(.iconst 1, 1)]
  | 13 => [(.putfield 73, 3), (.aload_n 0, 1), (.getfield 73, 3), (.ifCond .ne 12, 3), (.aload_n 0, 1), (.iload_n 1, 1), (.iconst 0, 1), (.invokevirtual 187, 3), (.goto 4, 3)]
  | 32 => [(.lconst 0, 1)]
  | 33 => [(.lreturn, 1)]
  | _ => []
def uX10_runCount : Nat → Option (List Bool)
  | _ => none
def aX10_runCount : pvCa
  | 80 => some (1, true, 0, 0, C_X10_isSlot)
  | 187 => some (3, false, 9, 0, C_X10_countsRuns)
  | _ => none
theorem bX10_runCount_0 : bX10_runCount 0 = [(.aload_n 0, 1), (.iload_n 1, 1), (.invokestatic 80, 3), (.ifCond .eq 7, 3), (.iconst 0, 1), (.goto 4, 3)] := rfl
theorem uX10_runCount_0 : uX10_runCount 0 = none := rfl
theorem bX10_runCount_12 : bX10_runCount 12 = [(.iconst 1, 1)] := rfl
theorem uX10_runCount_12 : uX10_runCount 12 = none := rfl
theorem bX10_runCount_13 : bX10_runCount 13 = [(.putfield 73, 3), (.aload_n 0, 1), (.getfield 73, 3), (.ifCond .ne 12, 3), (.aload_n 0, 1), (.iload_n 1, 1), (.iconst 0, 1), (.invokevirtual 187, 3), (.goto 4, 3)] := rfl
theorem uX10_runCount_13 : uX10_runCount 13 = none := rfl
theorem bX10_runCount_32 : bX10_runCount 32 = [(.lconst 0, 1)] := rfl
theorem uX10_runCount_32 : uX10_runCount 32 = none := rfl
theorem bX10_runCount_33 : bX10_runCount 33 = [(.lreturn, 1)] := rfl
theorem uX10_runCount_33 : uX10_runCount 33 = none := rfl
theorem aX10_runCount_80 : aX10_runCount 80 = some (1, true, 0, 0, C_X10_isSlot) := rfl
theorem aX10_runCount_187 : aX10_runCount 187 = some (3, false, 9, 0, C_X10_countsRuns) := rfl
def mX10_runCount : Room := { frames := 4, cells := 1, slots := 6, locals := 99 }
set_option maxRecDepth 100000 in
set_option maxHeartbeats 4000000 in
theorem okX10_runCount : pvOkM fX10 aX10_runCount kX10 eX10 (some .long) bX10_runCount uX10_runCount 2 C_X10_runCount := by
  intro Q SW hc as z h hS hz
  unfold C_X10_runCount at h
  split at h
  · rename_i id s
    obtain ⟨rfl, ⟨hw, hd⟩, h1, h2⟩ := h
    refine ⟨Nat.le_of_ble_eq_true rfl, hc 20 _ _ _ fun _ _ => ?_⟩
    clear hc hS hz
    simp only [pvSt1]
    simp only [C_X10_isSlot, C_X10_countsRuns, pvE_aload_n0, pvLA_s, pvLd, pvE_iload_n1, pvLI_s, pvE_invokestatic (h0 := eX10_80), pvC1_s, pvC2_s, pvAf_v, pvAf_x, pvPop, pvCs, pvCat, pvPush, aX10_runCount_80, pvE_if_eq, pvE_iconst, pvE_goto, pvE_putfield, pvPf_0, pvPf_1, fX10_73, pvSh_0, pvSh_1, pvSh_2, pvSh_3, pvSh_4, pvSh_5, pvSh_6, pvSh_7, pvSh_8, pvSh_9, pvSh_10, pvSh_11, pvSh_12, pvSh_13, pvSh_14, pvSh_15, pvSh_16, pvSh_17, pvSh_18, pvSh_19, pvSh_20, pvSh_21, pvSh_22, pvSh_23, pvSh_24, pvSh_25, pvSh_26, pvSh_27, pvSh_28, pvSh_29, pvSh_30, pvSh_31, pvSh_32, pvSh_33, pvSh_34, pvSh_35, pvSh_36, pvSh_37, pvSh_38, pvSh_39, pvSh_40, pvSh_41, pvSh_42, pvSh_43, pvSh_44, pvSh_45, pvSh_46, pvSh_47, pvSh_48, pvSh_49, pvSh_50, pvSh_51, pvSh_52, pvSh_53, pvSh_54, pvSh_55, pvSh_56, pvSh_57, pvSh_58, pvSh_59, pvE_getfield, pvGf_0, pvGf_1, pvGf_2, pvRf_0_0, pvRf_0_1, pvRf_0_2, pvRf_0_3, pvRf_0_4, pvRf_0_5, pvRf_0_6, pvRf_0_7, pvRf_0_8, pvRf_0_9, pvRf_0_10, pvRf_1_0, pvRf_3_0, pvRf_5_0, pvRf_5_1, pvRf_5_2, pvRf_9_0, pvRf_9_1, pvRf_9_2, pvRf_13_0, pvRf_13_1, pvRf_13_2, pvRf_17_0, pvRf_17_2, pvRf_20_0, pvRf_20_1, pvRf_20_2, pvRf_24_0, pvRf_24_1, pvRf_24_2, pvRf_28_0, pvRf_28_1, pvRf_28_2, pvRf_28_3, pvRf_33_0, pvRf_33_1, pvRf_36_0, pvRf_36_1, pvRf_39_0, pvRf_39_1, pvRf_39_2, pvRf_39_5, pvRf_39_6, pvRf_39_9, pvRf_39_13, pvRf_39_15, pvRf_39_16, pvRf_39_17, pvRf_39_19, pvRf_39_20, pvRf_39_22, pvRf_39_23, pvRf_39_24, pvRf_39_25, pvRf_39_29, pvRf_39_30, pvE_if_ne, pvE_invokevirtual, aX10_runCount_187, pvE_lconst0, pvE_lreturn, bX10_runCount_0, uX10_runCount_0, bX10_runCount_12, uX10_runCount_12, bX10_runCount_13, uX10_runCount_13, bX10_runCount_32, uX10_runCount_32, bX10_runCount_33, uX10_runCount_33, pvRecv_r, pvUp_nl, pvUp_same, pvUp_ap, pvSt_ap, pvX_c, pvX_ms, pvX_mn, pvE_nil, pvEn_i, pvEn_r, pvEn_l, pvEn_0, pvEn_s, pvRt, pvRv, pvTh, pvKc, pvGo, pvTgt, Int.toNat_natCast, false_and, and_false, true_and, and_true, if_true, if_false, reduceIte, reduceCtorEq, forall_const, false_or, or_false, true_or, or_true, ne_eq, not_true_eq_false, not_false_eq_true, implies_true, false_implies, Nat.reduceAdd, Nat.reduceSub, Nat.reduceMul, Nat.reduceEqDiff, Nat.reduceLT, Nat.reduceLeDiff, Int.reduceAdd, Int.reduceSub, Int.reduceMul, Int.reduceNeg, Int.reduceToNat, Int.reduceLE, Int.reduceLT, Int.reduceEq, Int.reduceNe, and_self]
    by_cases hs : 0 ≤ s ∧ s ≤ 1
    · have h3 := h2 hs
      have hw := hw hs
      (repeat' (first | with_reducible apply And.intro | intro _))
      all_goals first
        | omega
        | assumption
        | contradiction
        | (rename_i z1 f1 o1
           exact h3 z1 (frF_t (frF_u frF_0 (by decide)) f1 (by decide) (by decide)) (fun j hj => by rw [f1.1 39 (by decide)]; simp [pvUp_ap, hj]) (by rw [f1.1 39 (by decide)]; simp [pvUp_ap]))
    · have h3 := h1 hs
      (repeat' (first | with_reducible apply And.intro | intro _))
      all_goals first
        | omega
        | assumption
        | contradiction
  · exact h.elim
def C_X10_acceptingRuns : pvC
  | [.inr (.inr (.inl id)), .inl s], z, Q => id = 39 ∧ ((0 ≤ s ∧ s ≤ 1 → WfA (autR (z.1 40) s)) ∧ WdF (z.1 39 7) (z.1 43) (z.1 44)) ∧
      (¬ (0 ≤ s ∧ s ≤ 1) → Q (.inl (some (vL 0))) (pvUp z.1 39 8 1, z.2)) ∧
      (0 ≤ s ∧ s ≤ 1 → ∀ z' : pvM, frF [39] [47] z z' → (∀ j, j ≠ 8 → z'.1 39 j = z.1 39 j) → z'.1 39 8 = 0 → Q (.inl (some (vL (ruF (autR (z.1 40) s) (z.1 43) (z.1 44) (z.1 39 7).toNat (autR (z.1 40) s).2.2.1)))) z')
  | _, _, _ => False
def bX10_acceptingRuns : Nat → List (Instr × Nat)
  | 0 => [(.aload_n 0, 1), (.iload_n 1, 1), (.invokestatic 80, 3), (.ifCond .eq 7, 3), (.iconst 0, 1), (.goto 4, 3)]
  | 12 => [(.iconst 1, 1)]
  | 13 => [(.putfield 73, 3), (.aload_n 0, 1), (.getfield 73, 3), (.ifCond .ne 12, 3), (.aload_n 0, 1), (.iload_n 1, 1), (.iconst 1, 1), (.invokevirtual 187, 3), (.goto 4, 3)]
  | 32 => [(.lconst 0, 1)]
  | 33 => [(.lreturn, 1)]
  | _ => []
def uX10_acceptingRuns : Nat → Option (List Bool)
  | _ => none
def aX10_acceptingRuns : pvCa
  | 80 => some (1, true, 0, 0, C_X10_isSlot)
  | 187 => some (3, false, 9, 0, C_X10_countsRuns)
  | _ => none
theorem bX10_acceptingRuns_0 : bX10_acceptingRuns 0 = [(.aload_n 0, 1), (.iload_n 1, 1), (.invokestatic 80, 3), (.ifCond .eq 7, 3), (.iconst 0, 1), (.goto 4, 3)] := rfl
theorem uX10_acceptingRuns_0 : uX10_acceptingRuns 0 = none := rfl
theorem bX10_acceptingRuns_12 : bX10_acceptingRuns 12 = [(.iconst 1, 1)] := rfl
theorem uX10_acceptingRuns_12 : uX10_acceptingRuns 12 = none := rfl
theorem bX10_acceptingRuns_13 : bX10_acceptingRuns 13 = [(.putfield 73, 3), (.aload_n 0, 1), (.getfield 73, 3), (.ifCond .ne 12, 3), (.aload_n 0, 1), (.iload_n 1, 1), (.iconst 1, 1), (.invokevirtual 187, 3), (.goto 4, 3)] := rfl
theorem uX10_acceptingRuns_13 : uX10_acceptingRuns 13 = none := rfl
theorem bX10_acceptingRuns_32 : bX10_acceptingRuns 32 = [(.lconst 0, 1)] := rfl
theorem uX10_acceptingRuns_32 : uX10_acceptingRuns 32 = none := rfl
theorem bX10_acceptingRuns_33 : bX10_acceptingRuns 33 = [(.lreturn, 1)] := rfl
theorem uX10_acceptingRuns_33 : uX10_acceptingRuns 33 = none := rfl
theorem aX10_acceptingRuns_80 : aX10_acceptingRuns 80 = some (1, true, 0, 0, C_X10_isSlot) := rfl
theorem aX10_acceptingRuns_187 : aX10_acceptingRuns 187 = some (3, false, 9, 0, C_X10_countsRuns) := rfl
def mX10_acceptingRuns : Room := { frames := 4, cells := 1, slots := 6, locals := 99 }
set_option maxRecDepth 100000 in
set_option maxHeartbeats 4000000 in
theorem okX10_acceptingRuns : pvOkM fX10 aX10_acceptingRuns kX10 eX10 (some .long) bX10_acceptingRuns uX10_acceptingRuns 2 C_X10_acceptingRuns := by
  intro Q SW hc as z h hS hz
  unfold C_X10_acceptingRuns at h
  split at h
  · rename_i id s
    obtain ⟨rfl, ⟨hw, hd⟩, h1, h2⟩ := h
    refine ⟨Nat.le_of_ble_eq_true rfl, hc 20 _ _ _ fun _ _ => ?_⟩
    clear hc hS hz
    simp only [pvSt1]
    simp only [C_X10_isSlot, C_X10_countsRuns, pvE_aload_n0, pvLA_s, pvLd, pvE_iload_n1, pvLI_s, pvE_invokestatic (h0 := eX10_80), pvC1_s, pvC2_s, pvAf_v, pvAf_x, pvPop, pvCs, pvCat, pvPush, aX10_acceptingRuns_80, pvE_if_eq, pvE_iconst, pvE_goto, pvE_putfield, pvPf_0, pvPf_1, fX10_73, pvSh_0, pvSh_1, pvSh_2, pvSh_3, pvSh_4, pvSh_5, pvSh_6, pvSh_7, pvSh_8, pvSh_9, pvSh_10, pvSh_11, pvSh_12, pvSh_13, pvSh_14, pvSh_15, pvSh_16, pvSh_17, pvSh_18, pvSh_19, pvSh_20, pvSh_21, pvSh_22, pvSh_23, pvSh_24, pvSh_25, pvSh_26, pvSh_27, pvSh_28, pvSh_29, pvSh_30, pvSh_31, pvSh_32, pvSh_33, pvSh_34, pvSh_35, pvSh_36, pvSh_37, pvSh_38, pvSh_39, pvSh_40, pvSh_41, pvSh_42, pvSh_43, pvSh_44, pvSh_45, pvSh_46, pvSh_47, pvSh_48, pvSh_49, pvSh_50, pvSh_51, pvSh_52, pvSh_53, pvSh_54, pvSh_55, pvSh_56, pvSh_57, pvSh_58, pvSh_59, pvE_getfield, pvGf_0, pvGf_1, pvGf_2, pvRf_0_0, pvRf_0_1, pvRf_0_2, pvRf_0_3, pvRf_0_4, pvRf_0_5, pvRf_0_6, pvRf_0_7, pvRf_0_8, pvRf_0_9, pvRf_0_10, pvRf_1_0, pvRf_3_0, pvRf_5_0, pvRf_5_1, pvRf_5_2, pvRf_9_0, pvRf_9_1, pvRf_9_2, pvRf_13_0, pvRf_13_1, pvRf_13_2, pvRf_17_0, pvRf_17_2, pvRf_20_0, pvRf_20_1, pvRf_20_2, pvRf_24_0, pvRf_24_1, pvRf_24_2, pvRf_28_0, pvRf_28_1, pvRf_28_2, pvRf_28_3, pvRf_33_0, pvRf_33_1, pvRf_36_0, pvRf_36_1, pvRf_39_0, pvRf_39_1, pvRf_39_2, pvRf_39_5, pvRf_39_6, pvRf_39_9, pvRf_39_13, pvRf_39_15, pvRf_39_16, pvRf_39_17, pvRf_39_19, pvRf_39_20, pvRf_39_22, pvRf_39_23, pvRf_39_24, pvRf_39_25, pvRf_39_29, pvRf_39_30, pvE_if_ne, pvE_invokevirtual, aX10_acceptingRuns_187, pvE_lconst0, pvE_lreturn, bX10_acceptingRuns_0, uX10_acceptingRuns_0, bX10_acceptingRuns_12, uX10_acceptingRuns_12, bX10_acceptingRuns_13, uX10_acceptingRuns_13, bX10_acceptingRuns_32, uX10_acceptingRuns_32, bX10_acceptingRuns_33, uX10_acceptingRuns_33, pvRecv_r, pvUp_nl, pvUp_same, pvUp_ap, pvSt_ap, pvX_c, pvX_ms, pvX_mn, pvE_nil, pvEn_i, pvEn_r, pvEn_l, pvEn_0, pvEn_s, pvRt, pvRv, pvTh, pvKc, pvGo, pvTgt, Int.toNat_natCast, false_and, and_false, true_and, and_true, if_true, if_false, reduceIte, reduceCtorEq, forall_const, false_or, or_false, true_or, or_true, ne_eq, not_true_eq_false, not_false_eq_true, implies_true, false_implies, Nat.reduceAdd, Nat.reduceSub, Nat.reduceMul, Nat.reduceEqDiff, Nat.reduceLT, Nat.reduceLeDiff, Int.reduceAdd, Int.reduceSub, Int.reduceMul, Int.reduceNeg, Int.reduceToNat, Int.reduceLE, Int.reduceLT, Int.reduceEq, Int.reduceNe, and_self]
    by_cases hs : 0 ≤ s ∧ s ≤ 1
    · have h3 := h2 hs
      have hw := hw hs
      (repeat' (first | with_reducible apply And.intro | intro _))
      all_goals first
        | omega
        | assumption
        | contradiction
        | (rename_i z1 f1 o1
           exact h3 z1 (frF_t (frF_u frF_0 (by decide)) f1 (by decide) (by decide)) (fun j hj => by rw [f1.1 39 (by decide)]; simp [pvUp_ap, hj]) (by rw [f1.1 39 (by decide)]; simp [pvUp_ap]))
    · have h3 := h1 hs
      (repeat' (first | with_reducible apply And.intro | intro _))
      all_goals first
        | omega
        | assumption
        | contradiction
  · exact h.elim
def C_X10_firstStep : pvC
  | [.inr (.inr (.inl id)), .inl s, .inl q, .inl i], z, Q => id = 39 ∧ ((0 ≤ s ∧ s ≤ 1) ∧ WfA (autR (z.1 40) s) ∧ WdF (z.1 39 7) (z.1 43) (z.1 44) ∧ rlF z s ∧ (0 ≤ i ∧ i < z.1 39 7) ∧ (0 ≤ q ∧ q ≤ 3) ∧ btF (hpK (autR (z.1 40) s) (z.1 43) (z.1 44) (z.1 39 7 - i).toNat i.toNat) q = true) ∧
      Q (.inl (some (vI (fmK (autR (z.1 40) s).2.2.2 q (hpK (autR (z.1 40) s) (z.1 43) (z.1 44) (z.1 39 7 - i - 1).toNat (i.toNat + 1)) (z.1 44 i.toNat) (psF (vaF (z.1 43) (z.1 44) i.toNat) (z.1 43 i.toNat)) (autR (z.1 40) s).1.toNat 0)))) z
  | _, _, _ => False
def bX10_firstStep : Nat → List (Instr × Nat)
  | 0 => [(.aload_n 0, 1), (.iload_n 3, 1), (.invokevirtual 170, 3), (.istore 4, 2), (.iconst 0, 1), (.istore 5, 2)]
  | 10 => [(.aload_n 0, 1), (.iload_n 1, 1), (.iload 5, 2), (.iload_n 2, 1), (.aload_n 0, 1), (.getfield 22, 3), (.iload_n 3, 1), (.iaload, 1), (.iload 4, 2), (.invokevirtual 176, 3), (.ifCond .eq 32, 3), (.aload_n 0, 1), (.getfield 35, 3), (.iconst 4, 1), (.iload_n 3, 1), (.imul, 1), (.iconst 4, 1), (.iadd, 1), (.aload_n 0, 1), (.getfield 7, 3), (.iload_n 1, 1), (.iload 5, 2), (.invokestatic 130, 3), (.iconst 2, 1), (.iadd, 1), (.iaload, 1), (.iadd, 1), (.laload, 1), (.lconst 0, 1), (.lcmp, 1), (.ifCond .ne 9, 3)]
  | 58 => [(.iinc 5 1, 3), (.goto (-51), 3)]
  | 64 => [(.iload 5, 2), (.ireturn, 1)]
  | _ => []
def uX10_firstStep : Nat → Option (List Bool)
  | 10 => some [true, true, true, true, true, true]
  | _ => none
def aX10_firstStep : pvCa
  | 130 => some (2, true, 0, 0, C_X10_at)
  | 170 => some (2, false, 9, 0, C_X10_reads)
  | 176 => some (6, false, 9, 0, C_X10_goes)
  | _ => none
theorem bX10_firstStep_0 : bX10_firstStep 0 = [(.aload_n 0, 1), (.iload_n 3, 1), (.invokevirtual 170, 3), (.istore 4, 2), (.iconst 0, 1), (.istore 5, 2)] := rfl
theorem uX10_firstStep_0 : uX10_firstStep 0 = none := rfl
theorem bX10_firstStep_10 : bX10_firstStep 10 = [(.aload_n 0, 1), (.iload_n 1, 1), (.iload 5, 2), (.iload_n 2, 1), (.aload_n 0, 1), (.getfield 22, 3), (.iload_n 3, 1), (.iaload, 1), (.iload 4, 2), (.invokevirtual 176, 3), (.ifCond .eq 32, 3), (.aload_n 0, 1), (.getfield 35, 3), (.iconst 4, 1), (.iload_n 3, 1), (.imul, 1), (.iconst 4, 1), (.iadd, 1), (.aload_n 0, 1), (.getfield 7, 3), (.iload_n 1, 1), (.iload 5, 2), (.invokestatic 130, 3), (.iconst 2, 1), (.iadd, 1), (.iaload, 1), (.iadd, 1), (.laload, 1), (.lconst 0, 1), (.lcmp, 1), (.ifCond .ne 9, 3)] := rfl
theorem uX10_firstStep_10 : uX10_firstStep 10 = some [true, true, true, true, true, true] := rfl
theorem bX10_firstStep_58 : bX10_firstStep 58 = [(.iinc 5 1, 3), (.goto (-51), 3)] := rfl
theorem uX10_firstStep_58 : uX10_firstStep 58 = none := rfl
theorem bX10_firstStep_64 : bX10_firstStep 64 = [(.iload 5, 2), (.ireturn, 1)] := rfl
theorem uX10_firstStep_64 : uX10_firstStep 64 = none := rfl
theorem aX10_firstStep_130 : aX10_firstStep 130 = some (2, true, 0, 0, C_X10_at) := rfl
theorem aX10_firstStep_170 : aX10_firstStep 170 = some (2, false, 9, 0, C_X10_reads) := rfl
theorem aX10_firstStep_176 : aX10_firstStep 176 = some (6, false, 9, 0, C_X10_goes) := rfl
def mX10_firstStep : Room := { frames := 3, cells := 1, slots := 6, locals := 73 }
set_option maxRecDepth 100000 in
set_option maxHeartbeats 4000000 in
theorem okX10_firstStep : pvOkM fX10 aX10_firstStep kX10 eX10 (some .int) bX10_firstStep uX10_firstStep 6 C_X10_firstStep := by
  intro Q SW hc as z h hS hz
  unfold C_X10_firstStep at h
  split at h
  · rename_i id s q i
    obtain ⟨rfl, ⟨hs, hw, hd, hl, hi, hq, hb⟩, h2⟩ := h
    refine ⟨Nat.le_of_ble_eq_true rfl, ?_⟩
    have hd1 := hd.1
    obtain ⟨n, en⟩ : ∃ n : Nat, z.1 39 7 = n := ⟨(z.1 39 7).toNat, by omega⟩
    obtain ⟨i, rfl⟩ : ∃ n : Nat, i = n := ⟨i.toNat, by omega⟩
    rw [en] at hd1 hi hb h2
    rw [Int.toNat_natCast] at h2 hb
    obtain ⟨m, em⟩ : ∃ m, n = i + 1 + m := ⟨n - (i + 1), by omega⟩
    rw [show ((n : Int) - (i : Int)).toNat = m + 1 by omega] at hb
    rw [show ((n : Int) - (i : Int) - 1).toNat = m by omega] at h2
    have hn := hw.1
    have hvi := psF_r (v := vaF (z.1 43) (z.1 44) i) (d := z.1 43 i) (by have := vaF_r hd i (by omega); have := hd.2 i (by omega); omega)
    obtain ⟨t0, ht0, hh0⟩ := (sa_bt (n := (autR (z.1 40) s).1.toNat) (fun t ht => (hw.2.2.2 t (by omega)).1) _ _ _ hq (autR (z.1 40) s).1.toNat (Nat.le_refl _)).mp hb
    obtain ⟨t1, e1, -, e3, e4, e5⟩ := fm_f (autR (z.1 40) s).1.toNat 0 ⟨t0, Nat.zero_le _, by omega, hh0⟩
    rw [e1] at h2
    have loop : ∀ (m' k : Nat), k + m' = t1 → SW 10 [some (vR 39), some (vI s), some (vI q), some (vI (i : Int)), some (vI (psF (vaF (z.1 43) (z.1 44) i) (z.1 43 i))), some (vI (k : Int))] z := by
      intro m'
      induction m' using Nat.strongRecOn with
      | _ m' ih =>
        intro k hk
        have hT := hw.2.2.2 k (by omega)
        have e := autR_T (show (k : Int) < (autR (z.1 40) s).1 by omega)
        have e2 : (autR (z.1 40) s).2.2.2 k 2 = rT (z.1 40) s k 2 := by rw [e, nrT_s (by decide)]
        have g2 : z.1 40 (163 * s + 3 + 16 * (k : Int) + 2).toNat = (autR (z.1 40) s).2.2.2 k 2 := by rw [e2]; exact rT_eq (z.1 40) hs.1 (by omega)
        have hT2 := hT.2.2.1
        have n2 : (4 * (i : Int) + 4 + (autR (z.1 40) s).2.2.2 k 2).toNat = 4 * (i + 1) + ((autR (z.1 40) s).2.2.2 k 2).toNat := by omega
        have eR := hl (i + 1) m ((autR (z.1 40) s).2.2.2 k 2).toNat (by omega) (by omega)
        rw [show ((((autR (z.1 40) s).2.2.2 k 2).toNat : Nat) : Int) = (autR (z.1 40) s).2.2.2 k 2 by omega] at eR
        have bR := rnB_r hw (z.1 43) (z.1 44) (fun q _ => biF_r (autR (z.1 40) s).2.2.1 q) m (i + 1) _ hT2
        have b10 : (10 : Int) ^ m ≤ 10 ^ 10 := by exact_mod_cast Nat.pow_le_pow_right (n := 10) (by decide) (by omega)
        have p10 : (10 : Int) ^ 10 = 10000000000 := by decide
        have eb := hp_rn hw (z.1 43) (z.1 44) m (i + 1) _ hT2
        refine hc 20 _ _ _ fun _ _ => ?_
        simp only [pvSt1]
        simp only [C_X10_goes, C_X10_at, g2, n2, eR, pvE_aload_n0, pvLA_s, pvLd, pvE_iload_n3, pvLI_s, pvE_invokevirtual, pvC1_s, pvC2_s, pvAf_v, pvAf_x, pvPop, pvCs, pvCat, pvPush, aX10_firstStep_170, pvSh_0, pvSh_1, pvSh_2, pvSh_3, pvSh_4, pvSh_5, pvSh_6, pvSh_7, pvSh_8, pvSh_9, pvSh_10, pvSh_11, pvSh_12, pvSh_13, pvSh_14, pvSh_15, pvSh_16, pvSh_17, pvSh_18, pvSh_19, pvSh_20, pvSh_21, pvSh_22, pvSh_23, pvSh_24, pvSh_25, pvSh_26, pvSh_27, pvSh_28, pvSh_29, pvSh_30, pvSh_31, pvSh_32, pvSh_33, pvSh_34, pvSh_35, pvSh_36, pvSh_37, pvSh_38, pvSh_39, pvSh_40, pvSh_41, pvSh_42, pvSh_43, pvSh_44, pvSh_45, pvSh_46, pvSh_47, pvSh_48, pvSh_49, pvSh_50, pvSh_51, pvSh_52, pvSh_53, pvSh_54, pvSh_55, pvSh_56, pvSh_57, pvSh_58, pvSh_59, pvE_istore, pvS1, List.length_cons, List.length_nil, pvClr_i, pvClr_r, pvClr_l, pvClr_d, pvClr_f, pvClr_n, pvE_iconst, pvE_iload_n1, pvE_iload, pvE_iload_n2, pvE_getfield, pvGf_0, pvGf_1, pvGf_2, fX10_22, pvRf_0_0, pvRf_0_1, pvRf_0_2, pvRf_0_3, pvRf_0_4, pvRf_0_5, pvRf_0_6, pvRf_0_7, pvRf_0_8, pvRf_0_9, pvRf_0_10, pvRf_1_0, pvRf_3_0, pvRf_5_0, pvRf_5_1, pvRf_5_2, pvRf_9_0, pvRf_9_1, pvRf_9_2, pvRf_13_0, pvRf_13_1, pvRf_13_2, pvRf_17_0, pvRf_17_2, pvRf_20_0, pvRf_20_1, pvRf_20_2, pvRf_24_0, pvRf_24_1, pvRf_24_2, pvRf_28_0, pvRf_28_1, pvRf_28_2, pvRf_28_3, pvRf_33_0, pvRf_33_1, pvRf_36_0, pvRf_36_1, pvRf_39_0, pvRf_39_1, pvRf_39_2, pvRf_39_5, pvRf_39_6, pvRf_39_9, pvRf_39_13, pvRf_39_15, pvRf_39_16, pvRf_39_17, pvRf_39_19, pvRf_39_20, pvRf_39_22, pvRf_39_23, pvRf_39_24, pvRf_39_25, pvRf_39_29, pvRf_39_30, pvE_iaload, pvAI, aX10_firstStep_176, pvE_if_eq, fX10_35, pvE_imul, pvE_iadd, fX10_7, pvE_invokestatic (h0 := eX10_130), aX10_firstStep_130, pvE_laload, pvAL, pvE_lconst0, pvE_lcmp, pvE_if_ne, pvE_iinc, pvIc_s, pvE_goto, pvE_ireturn, bX10_firstStep_0, uX10_firstStep_0, bX10_firstStep_10, uX10_firstStep_10, bX10_firstStep_58, uX10_firstStep_58, bX10_firstStep_64, uX10_firstStep_64, pvMk_t, pvMk_f, pvMk_n, pvRecv_r, pvUp_nl, pvUp_same, pvUp_ap, pvSt_ap, pvX_c, pvX_ms, pvX_mn, pvE_nil, pvEn_i, pvEn_r, pvEn_l, pvEn_0, pvEn_s, pvRt, pvRv, pvTh, pvKc, pvGo, pvTgt, Int.toNat_natCast, false_and, and_false, true_and, and_true, if_true, if_false, reduceIte, reduceCtorEq, forall_const, false_or, or_false, true_or, or_true, ne_eq, not_true_eq_false, not_false_eq_true, implies_true, false_implies, Nat.reduceAdd, Nat.reduceSub, Nat.reduceMul, Nat.reduceEqDiff, Nat.reduceLT, Nat.reduceLeDiff, Int.reduceAdd, Int.reduceSub, Int.reduceMul, Int.reduceNeg, Int.reduceToNat, Int.reduceLE, Int.reduceLT, Int.reduceEq, Int.reduceNe, and_self]
        by_cases hx : t1 ≤ k
        · obtain rfl : k = t1 := by omega
          have e6 := eb.mp e4.2.1
          (repeat' (first | with_reducible apply And.intro | intro _))
          all_goals first
            | omega
            | assumption
            | (exfalso; rename ¬ (_ ∧ _) => hh; exact hh ⟨e4.1, e4.2.2⟩)
            | (exfalso; rename ¬ _ => hh; revert hh; split <;> omega)
        · have e6 := e5 k (Nat.zero_le _) (by omega)
          have q9 := ih (m' - 1) (by omega) (k + 1) (by omega)
          by_cases hg : (autR (z.1 40) s).2.2.2 k 0 = q ∧ (autR (z.1 40) s).2.2.2 k 1 = z.1 44 i ∧ blF ((autR (z.1 40) s).2.2.2 k) (psF (vaF (z.1 43) (z.1 44) i) (z.1 43 i)) < 0
          · have e7 : rnB (autR (z.1 40) s) (z.1 43) (z.1 44) (biF (autR (z.1 40) s).2.2.1) m (i + 1) ((autR (z.1 40) s).2.2.2 k 2) = 0 := by
              by_cases e8 : rnB (autR (z.1 40) s) (z.1 43) (z.1 44) (biF (autR (z.1 40) s).2.2.1) m (i + 1) ((autR (z.1 40) s).2.2.2 k 2) = 0
              · exact e8
              · exact absurd ⟨hg.1, eb.mpr e8, hg.2⟩ e6
            rw [e7]
            (repeat' (first | with_reducible apply And.intro | intro _))
            all_goals first
              | omega
              | assumption
              | exact q9
              | contradiction
              | (exfalso; rename ¬ _ => hh; exact hh (by decide))
          · (repeat' (first | with_reducible apply And.intro | intro _))
            all_goals first
              | omega
              | assumption
              | exact q9
              | contradiction
    refine hc 20 _ _ _ fun _ _ => ?_
    simp only [pvSt1]
    simp only [C_X10_reads, pvE_aload_n0, pvLA_s, pvLd, pvE_iload_n3, pvLI_s, pvE_invokevirtual, pvC1_s, pvC2_s, pvAf_v, pvAf_x, pvPop, pvCs, pvCat, pvPush, aX10_firstStep_170, pvSh_0, pvSh_1, pvSh_2, pvSh_3, pvSh_4, pvSh_5, pvSh_6, pvSh_7, pvSh_8, pvSh_9, pvSh_10, pvSh_11, pvSh_12, pvSh_13, pvSh_14, pvSh_15, pvSh_16, pvSh_17, pvSh_18, pvSh_19, pvSh_20, pvSh_21, pvSh_22, pvSh_23, pvSh_24, pvSh_25, pvSh_26, pvSh_27, pvSh_28, pvSh_29, pvSh_30, pvSh_31, pvSh_32, pvSh_33, pvSh_34, pvSh_35, pvSh_36, pvSh_37, pvSh_38, pvSh_39, pvSh_40, pvSh_41, pvSh_42, pvSh_43, pvSh_44, pvSh_45, pvSh_46, pvSh_47, pvSh_48, pvSh_49, pvSh_50, pvSh_51, pvSh_52, pvSh_53, pvSh_54, pvSh_55, pvSh_56, pvSh_57, pvSh_58, pvSh_59, pvE_istore, pvS1, List.length_cons, List.length_nil, pvClr_i, pvClr_r, pvClr_l, pvClr_d, pvClr_f, pvClr_n, pvE_iconst, pvE_iload_n1, pvE_iload, pvE_iload_n2, pvE_getfield, pvGf_0, pvGf_1, pvGf_2, fX10_22, pvRf_0_0, pvRf_0_1, pvRf_0_2, pvRf_0_3, pvRf_0_4, pvRf_0_5, pvRf_0_6, pvRf_0_7, pvRf_0_8, pvRf_0_9, pvRf_0_10, pvRf_1_0, pvRf_3_0, pvRf_5_0, pvRf_5_1, pvRf_5_2, pvRf_9_0, pvRf_9_1, pvRf_9_2, pvRf_13_0, pvRf_13_1, pvRf_13_2, pvRf_17_0, pvRf_17_2, pvRf_20_0, pvRf_20_1, pvRf_20_2, pvRf_24_0, pvRf_24_1, pvRf_24_2, pvRf_28_0, pvRf_28_1, pvRf_28_2, pvRf_28_3, pvRf_33_0, pvRf_33_1, pvRf_36_0, pvRf_36_1, pvRf_39_0, pvRf_39_1, pvRf_39_2, pvRf_39_5, pvRf_39_6, pvRf_39_9, pvRf_39_13, pvRf_39_15, pvRf_39_16, pvRf_39_17, pvRf_39_19, pvRf_39_20, pvRf_39_22, pvRf_39_23, pvRf_39_24, pvRf_39_25, pvRf_39_29, pvRf_39_30, pvE_iaload, pvAI, aX10_firstStep_176, pvE_if_eq, fX10_35, pvE_imul, pvE_iadd, fX10_7, pvE_invokestatic (h0 := eX10_130), aX10_firstStep_130, pvE_laload, pvAL, pvE_lconst0, pvE_lcmp, pvE_if_ne, pvE_iinc, pvIc_s, pvE_goto, pvE_ireturn, bX10_firstStep_0, uX10_firstStep_0, bX10_firstStep_10, uX10_firstStep_10, bX10_firstStep_58, uX10_firstStep_58, bX10_firstStep_64, uX10_firstStep_64, pvMk_t, pvMk_f, pvMk_n, pvRecv_r, pvUp_nl, pvUp_same, pvUp_ap, pvSt_ap, pvX_c, pvX_ms, pvX_mn, pvE_nil, pvEn_i, pvEn_r, pvEn_l, pvEn_0, pvEn_s, pvRt, pvRv, pvTh, pvKc, pvGo, pvTgt, Int.toNat_natCast, false_and, and_false, true_and, and_true, if_true, if_false, reduceIte, reduceCtorEq, forall_const, false_or, or_false, true_or, or_true, ne_eq, not_true_eq_false, not_false_eq_true, implies_true, false_implies, Nat.reduceAdd, Nat.reduceSub, Nat.reduceMul, Nat.reduceEqDiff, Nat.reduceLT, Nat.reduceLeDiff, Int.reduceAdd, Int.reduceSub, Int.reduceMul, Int.reduceNeg, Int.reduceToNat, Int.reduceLE, Int.reduceLT, Int.reduceEq, Int.reduceNe, and_self]
    (repeat' (first | with_reducible apply And.intro | intro _))
    all_goals first
      | omega
      | assumption
      | exact loop t1 0 (by omega)
  · exact h.elim
def C_X10_firstRun : pvC
  | [.inr (.inr (.inl id)), .inl s, .inl i], z, Q => id = 39 ∧ ((0 ≤ s ∧ s ≤ 1 → WfA (autR (z.1 40) s)) ∧ WdF (z.1 39 7) (z.1 43) (z.1 44)) ∧
      (¬ ((0 ≤ s ∧ s ≤ 1) ∧ 0 ≤ i ∧ i < z.1 39 7) → Q (.inl (some (vI 0))) (pvUp z.1 39 8 1, z.2)) ∧
      ((0 ≤ s ∧ s ≤ 1) ∧ (0 ≤ i ∧ i < z.1 39 7) → ∀ z' : pvM, frF [39] [47] z z' → (∀ j, j ≠ 8 → z'.1 39 j = z.1 39 j) →
        (pvAnd (autR (z.1 40) s).2.1 (hpK (autR (z.1 40) s) (z.1 43) (z.1 44) (z.1 39 7).toNat 0) = 0 → z'.1 39 8 = 2 → Q (.inl (some (vI 0))) z') ∧
        (¬ pvAnd (autR (z.1 40) s).2.1 (hpK (autR (z.1 40) s) (z.1 43) (z.1 44) (z.1 39 7).toNat 0) = 0 → z'.1 39 8 = 0 → Q (.inl (some (vI (frK (autR (z.1 40) s) (z.1 43) (z.1 44) (z.1 39 7).toNat (i.toNat + 1)).2))) z'))
  | _, _, _ => False
def bX10_firstRun : Nat → List (Instr × Nat)
  | 0 => [(.aload_n 0, 1), (.iconst 0, 1), (.putfield 73, 3), (.iload_n 1, 1), (.invokestatic 80, 3), (.ifCond .eq 11, 3), (.aload_n 0, 1), (.iload_n 2, 1), (.invokevirtual 161, 3), (.ifCond .ne 9, 3)]
  | 20 => [(.aload_n 0, 1), (.iconst 1, 1), (.invokevirtual 87, 3), (.ireturn, 1)]
  | 26 => [(.aload_n 0, 1), (.iload_n 1, 1), (.iconst 1, 1), (.invokevirtual 187, 3), (.lconst 0, 1), (.lcmp, 1), (.ifCond .ne 9, 3), (.aload_n 0, 1), (.iconst 2, 1), (.invokevirtual 87, 3), (.ireturn, 1)]
  | 43 => [(.iconst 0, 1), (.istore_n 3, 1)]
  | 45 => [(.aload_n 0, 1), (.getfield 7, 3), (.sipush 163, 3), (.iload_n 1, 1), (.imul, 1), (.iaload, 1), (.iload_n 3, 1), (.ishr, 1), (.iconst 1, 1), (.iand, 1), (.ifCond .eq 14, 3), (.aload_n 0, 1), (.getfield 35, 3), (.iload_n 3, 1), (.laload, 1), (.lconst 0, 1), (.lcmp, 1), (.ifCond .ne 9, 3)]
  | 73 => [(.iinc 3 1, 3), (.goto (-31), 3)]
  | 79 => [(.iconst (-1), 1), (.istore 4, 2), (.iconst 0, 1), (.istore 5, 2)]
  | 85 => [(.iload 5, 2), (.iload_n 2, 1), (.if_icmp .gt 33, 3), (.aload_n 0, 1), (.iload_n 1, 1), (.iload_n 3, 1), (.iload 5, 2), (.invokevirtual 191, 3), (.istore 4, 2), (.aload_n 0, 1), (.getfield 7, 3), (.iload_n 1, 1), (.iload 4, 2), (.invokestatic 130, 3), (.iconst 2, 1), (.iadd, 1), (.iaload, 1), (.istore_n 3, 1), (.iinc 5 1, 3), (.goto (-33), 3)]
  | 121 => [(.iload 4, 2), (.ireturn, 1)]
  | _ => []
def uX10_firstRun : Nat → Option (List Bool)
  | 43 => some [true, true, true, false, false, false]
  | 45 => some [true, true, true, true, false, false]
  | 85 => some [true, true, true, true, true, true]
  | _ => none
def aX10_firstRun : pvCa
  | 80 => some (1, true, 0, 0, C_X10_isSlot)
  | 87 => some (2, false, 9, 0, C_X10_fails)
  | 130 => some (2, true, 0, 0, C_X10_at)
  | 161 => some (2, false, 9, 0, C_X10_isEvent)
  | 187 => some (3, false, 9, 0, C_X10_countsRuns)
  | 191 => some (4, false, 9, 0, C_X10_firstStep)
  | _ => none
theorem bX10_firstRun_0 : bX10_firstRun 0 = [(.aload_n 0, 1), (.iconst 0, 1), (.putfield 73, 3), (.iload_n 1, 1), (.invokestatic 80, 3), (.ifCond .eq 11, 3), (.aload_n 0, 1), (.iload_n 2, 1), (.invokevirtual 161, 3), (.ifCond .ne 9, 3)] := rfl
theorem uX10_firstRun_0 : uX10_firstRun 0 = none := rfl
theorem bX10_firstRun_20 : bX10_firstRun 20 = [(.aload_n 0, 1), (.iconst 1, 1), (.invokevirtual 87, 3), (.ireturn, 1)] := rfl
theorem uX10_firstRun_20 : uX10_firstRun 20 = none := rfl
theorem bX10_firstRun_26 : bX10_firstRun 26 = [(.aload_n 0, 1), (.iload_n 1, 1), (.iconst 1, 1), (.invokevirtual 187, 3), (.lconst 0, 1), (.lcmp, 1), (.ifCond .ne 9, 3), (.aload_n 0, 1), (.iconst 2, 1), (.invokevirtual 87, 3), (.ireturn, 1)] := rfl
theorem uX10_firstRun_26 : uX10_firstRun 26 = none := rfl
theorem bX10_firstRun_43 : bX10_firstRun 43 = [(.iconst 0, 1), (.istore_n 3, 1)] := rfl
theorem uX10_firstRun_43 : uX10_firstRun 43 = some [true, true, true, false, false, false] := rfl
theorem bX10_firstRun_45 : bX10_firstRun 45 = [(.aload_n 0, 1), (.getfield 7, 3), (.sipush 163, 3), (.iload_n 1, 1), (.imul, 1), (.iaload, 1), (.iload_n 3, 1), (.ishr, 1), (.iconst 1, 1), (.iand, 1), (.ifCond .eq 14, 3), (.aload_n 0, 1), (.getfield 35, 3), (.iload_n 3, 1), (.laload, 1), (.lconst 0, 1), (.lcmp, 1), (.ifCond .ne 9, 3)] := rfl
theorem uX10_firstRun_45 : uX10_firstRun 45 = some [true, true, true, true, false, false] := rfl
theorem bX10_firstRun_73 : bX10_firstRun 73 = [(.iinc 3 1, 3), (.goto (-31), 3)] := rfl
theorem uX10_firstRun_73 : uX10_firstRun 73 = none := rfl
theorem bX10_firstRun_79 : bX10_firstRun 79 = [(.iconst (-1), 1), (.istore 4, 2), (.iconst 0, 1), (.istore 5, 2)] := rfl
theorem uX10_firstRun_79 : uX10_firstRun 79 = none := rfl
theorem bX10_firstRun_85 : bX10_firstRun 85 = [(.iload 5, 2), (.iload_n 2, 1), (.if_icmp .gt 33, 3), (.aload_n 0, 1), (.iload_n 1, 1), (.iload_n 3, 1), (.iload 5, 2), (.invokevirtual 191, 3), (.istore 4, 2), (.aload_n 0, 1), (.getfield 7, 3), (.iload_n 1, 1), (.iload 4, 2), (.invokestatic 130, 3), (.iconst 2, 1), (.iadd, 1), (.iaload, 1), (.istore_n 3, 1), (.iinc 5 1, 3), (.goto (-33), 3)] := rfl
theorem uX10_firstRun_85 : uX10_firstRun 85 = some [true, true, true, true, true, true] := rfl
theorem bX10_firstRun_121 : bX10_firstRun 121 = [(.iload 4, 2), (.ireturn, 1)] := rfl
theorem uX10_firstRun_121 : uX10_firstRun 121 = none := rfl
theorem aX10_firstRun_80 : aX10_firstRun 80 = some (1, true, 0, 0, C_X10_isSlot) := rfl
theorem aX10_firstRun_87 : aX10_firstRun 87 = some (2, false, 9, 0, C_X10_fails) := rfl
theorem aX10_firstRun_130 : aX10_firstRun 130 = some (2, true, 0, 0, C_X10_at) := rfl
theorem aX10_firstRun_161 : aX10_firstRun 161 = some (2, false, 9, 0, C_X10_isEvent) := rfl
theorem aX10_firstRun_187 : aX10_firstRun 187 = some (3, false, 9, 0, C_X10_countsRuns) := rfl
theorem aX10_firstRun_191 : aX10_firstRun 191 = some (4, false, 9, 0, C_X10_firstStep) := rfl
def mX10_firstRun : Room := { frames := 4, cells := 1, slots := 6, locals := 99 }
set_option maxRecDepth 100000 in
set_option maxHeartbeats 4000000 in
theorem okX10_firstRun : pvOkM fX10 aX10_firstRun kX10 eX10 (some .int) bX10_firstRun uX10_firstRun 6 C_X10_firstRun := by
  intro Q SW hc as z h hS hz
  unfold C_X10_firstRun at h
  split at h
  · rename_i id s i
    obtain ⟨rfl, ⟨hw, hd⟩, h1, h2⟩ := h
    refine ⟨Nat.le_of_ble_eq_true rfl, ?_⟩
    have hd1 := hd.1
    by_cases hv : (0 ≤ s ∧ s ≤ 1) ∧ 0 ≤ i ∧ i < z.1 39 7
    · have h3 := h2 hv
      obtain ⟨hs, hi⟩ := hv
      have hw := hw hs
      clear h1 h2
      obtain ⟨n, en⟩ : ∃ n : Nat, z.1 39 7 = n := ⟨(z.1 39 7).toNat, by omega⟩
      obtain ⟨i, rfl⟩ : ∃ n : Nat, i = n := ⟨i.toNat, by omega⟩
      rw [en, Int.toNat_natCast, Int.toNat_natCast] at h3
      rw [en] at hi hd1
      have gi : z.1 40 (163 * s).toNat = (autR (z.1 40) s).2.1 := rS_i hs.1 rfl
      have hn := hw.1
      have hrb := ruF_r hw (z.1 43) (z.1 44) (n := n) (by omega) (autR (z.1 40) s).2.2.1
      have hru := ru_hp hw (z.1 43) (z.1 44) n
      have hfo := frK_ok hw (z.1 43) (z.1 44) n
      have hft := frK_t hw (z.1 43) (z.1 44) n
      have hr := hpK_r hw (z.1 43) (z.1 44)
      have loop : ∀ (m k : Nat) (z' : pvM), k + m = i + 1 → ¬ pvAnd (autR (z.1 40) s).2.1 (hpK (autR (z.1 40) s) (z.1 43) (z.1 44) n 0) = 0 → frF [39] [47] z z' → (∀ j, j ≠ 8 → z'.1 39 j = z.1 39 j) → z'.1 39 8 = 0 → rlF z' s →
          SW 85 [some (vR 39), some (vI s), some (vI (i : Int)), some (vI (frK (autR (z.1 40) s) (z.1 43) (z.1 44) n k).1), some (vI (frK (autR (z.1 40) s) (z.1 43) (z.1 44) n k).2), some (vI (k : Int))] z' := by
        intro m
        induction m with
        | zero =>
          intro k z' hk h0 f1 k1 e8 o1
          obtain rfl : k = i + 1 := by omega
          have q9 := (h3 z' f1 k1).2 h0 e8
          refine hc 20 _ _ _ fun _ _ => ?_
          simp only [pvSt1]
          simp only [C_X10_firstStep, C_X10_at, pvE_aload_n0, pvLA_s, pvLd, pvE_iconst, pvE_putfield, pvPf_0, pvPf_1, fX10_73, pvSh_0, pvSh_1, pvSh_2, pvSh_3, pvSh_4, pvSh_5, pvSh_6, pvSh_7, pvSh_8, pvSh_9, pvSh_10, pvSh_11, pvSh_12, pvSh_13, pvSh_14, pvSh_15, pvSh_16, pvSh_17, pvSh_18, pvSh_19, pvSh_20, pvSh_21, pvSh_22, pvSh_23, pvSh_24, pvSh_25, pvSh_26, pvSh_27, pvSh_28, pvSh_29, pvSh_30, pvSh_31, pvSh_32, pvSh_33, pvSh_34, pvSh_35, pvSh_36, pvSh_37, pvSh_38, pvSh_39, pvSh_40, pvSh_41, pvSh_42, pvSh_43, pvSh_44, pvSh_45, pvSh_46, pvSh_47, pvSh_48, pvSh_49, pvSh_50, pvSh_51, pvSh_52, pvSh_53, pvSh_54, pvSh_55, pvSh_56, pvSh_57, pvSh_58, pvSh_59, pvE_iload_n1, pvLI_s, pvE_invokestatic (h0 := eX10_80), pvC1_s, pvC2_s, pvAf_v, pvAf_x, pvPop, pvCs, pvCat, pvPush, aX10_firstRun_80, pvE_if_eq, pvE_iload_n2, pvE_invokevirtual, aX10_firstRun_161, pvE_if_ne, aX10_firstRun_87, pvE_ireturn, aX10_firstRun_187, pvE_lconst0, pvE_lcmp, pvE_istore_n3, pvS1, List.length_cons, List.length_nil, pvClr_i, pvClr_r, pvClr_l, pvClr_d, pvClr_f, pvClr_n, pvE_getfield, pvGf_0, pvGf_1, pvGf_2, fX10_7, pvRf_0_0, pvRf_0_1, pvRf_0_2, pvRf_0_3, pvRf_0_4, pvRf_0_5, pvRf_0_6, pvRf_0_7, pvRf_0_8, pvRf_0_9, pvRf_0_10, pvRf_1_0, pvRf_3_0, pvRf_5_0, pvRf_5_1, pvRf_5_2, pvRf_9_0, pvRf_9_1, pvRf_9_2, pvRf_13_0, pvRf_13_1, pvRf_13_2, pvRf_17_0, pvRf_17_2, pvRf_20_0, pvRf_20_1, pvRf_20_2, pvRf_24_0, pvRf_24_1, pvRf_24_2, pvRf_28_0, pvRf_28_1, pvRf_28_2, pvRf_28_3, pvRf_33_0, pvRf_33_1, pvRf_36_0, pvRf_36_1, pvRf_39_0, pvRf_39_1, pvRf_39_2, pvRf_39_5, pvRf_39_6, pvRf_39_9, pvRf_39_13, pvRf_39_15, pvRf_39_16, pvRf_39_17, pvRf_39_19, pvRf_39_20, pvRf_39_22, pvRf_39_23, pvRf_39_24, pvRf_39_25, pvRf_39_29, pvRf_39_30, pvE_sipush, pvE_imul, pvE_iaload, pvAI, pvE_iload_n3, pvE_ishr, pvE_iand, fX10_35, pvE_laload, pvAL, pvE_iinc, pvIc_s, pvE_goto, pvE_istore, pvE_iload, pvE_icmp_gt, aX10_firstRun_191, pvE_invokestatic (h0 := eX10_130), aX10_firstRun_130, pvE_iadd, bX10_firstRun_0, uX10_firstRun_0, bX10_firstRun_20, uX10_firstRun_20, bX10_firstRun_26, uX10_firstRun_26, bX10_firstRun_43, uX10_firstRun_43, bX10_firstRun_45, uX10_firstRun_45, bX10_firstRun_73, uX10_firstRun_73, bX10_firstRun_79, uX10_firstRun_79, bX10_firstRun_85, uX10_firstRun_85, bX10_firstRun_121, uX10_firstRun_121, pvMk_t, pvMk_f, pvMk_n, pvRecv_r, pvUp_nl, pvUp_same, pvUp_ap, pvSt_ap, pvX_c, pvX_ms, pvX_mn, pvE_nil, pvEn_i, pvEn_r, pvEn_l, pvEn_0, pvEn_s, pvRt, pvRv, pvTh, pvKc, pvGo, pvTgt, Int.toNat_natCast, false_and, and_false, true_and, and_true, if_true, if_false, reduceIte, reduceCtorEq, forall_const, false_or, or_false, true_or, or_true, ne_eq, not_true_eq_false, not_false_eq_true, implies_true, false_implies, Nat.reduceAdd, Nat.reduceSub, Nat.reduceMul, Nat.reduceEqDiff, Nat.reduceLT, Nat.reduceLeDiff, Int.reduceAdd, Int.reduceSub, Int.reduceMul, Int.reduceNeg, Int.reduceToNat, Int.reduceLE, Int.reduceLT, Int.reduceEq, Int.reduceNe, and_self]
          (repeat' (first | with_reducible apply And.intro | intro _))
          all_goals first
            | omega
            | exact q9
        | succ m ih =>
          intro k z' hk h0 f1 k1 e8 o1
          have g40 := f1.1 40 (by decide)
          have g43 := f1.1 43 (by decide)
          have g44 := f1.1 44 (by decide)
          have g7 := k1 7 (by decide)
          obtain ⟨i1, i2⟩ := hfo h0 k (by omega)
          obtain ⟨i3, i4⟩ := hft h0 k (by omega)
          have nk : ((n : Int) - (k : Int)).toNat = n - k := by omega
          have nk1 : ((n : Int) - (k : Int) - 1).toNat = n - (k + 1) := by omega
          have ef : fmK (autR (z.1 40) s).2.2.2 (frK (autR (z.1 40) s) (z.1 43) (z.1 44) n k).1 (hpK (autR (z.1 40) s) (z.1 43) (z.1 44) (n - (k + 1)) (k + 1)) (z.1 44 k) (psF (vaF (z.1 43) (z.1 44) k) (z.1 43 k)) (autR (z.1 40) s).1.toNat 0 = (frK (autR (z.1 40) s) (z.1 43) (z.1 44) n (k + 1)).2 := rfl
          have es : z.1 40 (163 * s + 3 + 16 * (frK (autR (z.1 40) s) (z.1 43) (z.1 44) n (k + 1)).2 + 2).toNat = (frK (autR (z.1 40) s) (z.1 43) (z.1 44) n (k + 1)).1 := by
            rw [rT_eq (z.1 40) (t := (frK (autR (z.1 40) s) (z.1 43) (z.1 44) n (k + 1)).2.toNat) (c := 2) hs.1 (by omega), ← nrT_s (T := rT (z.1 40) s (frK (autR (z.1 40) s) (z.1 43) (z.1 44) n (k + 1)).2.toNat) (show 2 < 4 by decide), ← autR_T (f := z.1 40) (s := s) (by omega)]
            rfl
          have ihk := ih (k + 1) z' (by omega) h0 f1 k1 e8 o1
          have hd' : WdF (n : Int) (z.1 43) (z.1 44) := by rw [← en]; exact hd
          refine hc 20 _ _ _ fun _ _ => ?_
          simp only [pvSt1]
          simp only [C_X10_firstStep, C_X10_at, g40, g43, g44, g7, en, nk, nk1, ef, es, pvE_aload_n0, pvLA_s, pvLd, pvE_iconst, pvE_putfield, pvPf_0, pvPf_1, fX10_73, pvSh_0, pvSh_1, pvSh_2, pvSh_3, pvSh_4, pvSh_5, pvSh_6, pvSh_7, pvSh_8, pvSh_9, pvSh_10, pvSh_11, pvSh_12, pvSh_13, pvSh_14, pvSh_15, pvSh_16, pvSh_17, pvSh_18, pvSh_19, pvSh_20, pvSh_21, pvSh_22, pvSh_23, pvSh_24, pvSh_25, pvSh_26, pvSh_27, pvSh_28, pvSh_29, pvSh_30, pvSh_31, pvSh_32, pvSh_33, pvSh_34, pvSh_35, pvSh_36, pvSh_37, pvSh_38, pvSh_39, pvSh_40, pvSh_41, pvSh_42, pvSh_43, pvSh_44, pvSh_45, pvSh_46, pvSh_47, pvSh_48, pvSh_49, pvSh_50, pvSh_51, pvSh_52, pvSh_53, pvSh_54, pvSh_55, pvSh_56, pvSh_57, pvSh_58, pvSh_59, pvE_iload_n1, pvLI_s, pvE_invokestatic (h0 := eX10_80), pvC1_s, pvC2_s, pvAf_v, pvAf_x, pvPop, pvCs, pvCat, pvPush, aX10_firstRun_80, pvE_if_eq, pvE_iload_n2, pvE_invokevirtual, aX10_firstRun_161, pvE_if_ne, aX10_firstRun_87, pvE_ireturn, aX10_firstRun_187, pvE_lconst0, pvE_lcmp, pvE_istore_n3, pvS1, List.length_cons, List.length_nil, pvClr_i, pvClr_r, pvClr_l, pvClr_d, pvClr_f, pvClr_n, pvE_getfield, pvGf_0, pvGf_1, pvGf_2, fX10_7, pvRf_0_0, pvRf_0_1, pvRf_0_2, pvRf_0_3, pvRf_0_4, pvRf_0_5, pvRf_0_6, pvRf_0_7, pvRf_0_8, pvRf_0_9, pvRf_0_10, pvRf_1_0, pvRf_3_0, pvRf_5_0, pvRf_5_1, pvRf_5_2, pvRf_9_0, pvRf_9_1, pvRf_9_2, pvRf_13_0, pvRf_13_1, pvRf_13_2, pvRf_17_0, pvRf_17_2, pvRf_20_0, pvRf_20_1, pvRf_20_2, pvRf_24_0, pvRf_24_1, pvRf_24_2, pvRf_28_0, pvRf_28_1, pvRf_28_2, pvRf_28_3, pvRf_33_0, pvRf_33_1, pvRf_36_0, pvRf_36_1, pvRf_39_0, pvRf_39_1, pvRf_39_2, pvRf_39_5, pvRf_39_6, pvRf_39_9, pvRf_39_13, pvRf_39_15, pvRf_39_16, pvRf_39_17, pvRf_39_19, pvRf_39_20, pvRf_39_22, pvRf_39_23, pvRf_39_24, pvRf_39_25, pvRf_39_29, pvRf_39_30, pvE_sipush, pvE_imul, pvE_iaload, pvAI, pvE_iload_n3, pvE_ishr, pvE_iand, fX10_35, pvE_laload, pvAL, pvE_iinc, pvIc_s, pvE_goto, pvE_istore, pvE_iload, pvE_icmp_gt, aX10_firstRun_191, pvE_invokestatic (h0 := eX10_130), aX10_firstRun_130, pvE_iadd, bX10_firstRun_0, uX10_firstRun_0, bX10_firstRun_20, uX10_firstRun_20, bX10_firstRun_26, uX10_firstRun_26, bX10_firstRun_43, uX10_firstRun_43, bX10_firstRun_45, uX10_firstRun_45, bX10_firstRun_73, uX10_firstRun_73, bX10_firstRun_79, uX10_firstRun_79, bX10_firstRun_85, uX10_firstRun_85, bX10_firstRun_121, uX10_firstRun_121, pvMk_t, pvMk_f, pvMk_n, pvRecv_r, pvUp_nl, pvUp_same, pvUp_ap, pvSt_ap, pvX_c, pvX_ms, pvX_mn, pvE_nil, pvEn_i, pvEn_r, pvEn_l, pvEn_0, pvEn_s, pvRt, pvRv, pvTh, pvKc, pvGo, pvTgt, Int.toNat_natCast, false_and, and_false, true_and, and_true, if_true, if_false, reduceIte, reduceCtorEq, forall_const, false_or, or_false, true_or, or_true, ne_eq, not_true_eq_false, not_false_eq_true, implies_true, false_implies, Nat.reduceAdd, Nat.reduceSub, Nat.reduceMul, Nat.reduceEqDiff, Nat.reduceLT, Nat.reduceLeDiff, Int.reduceAdd, Int.reduceSub, Int.reduceMul, Int.reduceNeg, Int.reduceToNat, Int.reduceLE, Int.reduceLT, Int.reduceEq, Int.reduceNe, and_self]
          (repeat' (first | with_reducible apply And.intro | intro _))
          all_goals first
            | omega
            | assumption
            | exact o1 _ _ _ (by omega) (by assumption)
      have seek : ∀ (m k : Nat) (z' : pvM), (k : Int) + m = lbF (pvAnd (autR (z.1 40) s).2.1 (hpK (autR (z.1 40) s) (z.1 43) (z.1 44) n 0)) → ¬ pvAnd (autR (z.1 40) s).2.1 (hpK (autR (z.1 40) s) (z.1 43) (z.1 44) n 0) = 0 → frF [39] [47] z z' → (∀ j, j ≠ 8 → z'.1 39 j = z.1 39 j) → z'.1 39 8 = 0 → rlF z' s →
          SW 45 [some (vR 39), some (vI s), some (vI (i : Int)), some (vI (k : Int)), none, none] z' := by
        intro m
        induction m using Nat.strongRecOn with
        | _ m ih =>
          intro k z' hk h0 f1 k1 e8 o1
          have g40 := f1.1 40 (by decide)
          have g43 := f1.1 43 (by decide)
          have g44 := f1.1 44 (by decide)
          have g7 := k1 7 (by decide)
          have hla := and15 hw.2.1 (hr n 0)
          have hl3 := lbF_r (pvAnd (autR (z.1 40) s).2.1 (hpK (autR (z.1 40) s) (z.1 43) (z.1 44) n 0))
          have hlo := (low hla h0).2.2
          have eR := o1 0 n k (by rw [g7, en]; omega) (by omega)
          rw [g40, g43, g44, show 4 * 0 + k = k by omega] at eR
          have bR := rnB_r hw (z.1 43) (z.1 44) (fun q _ => biF_r (autR (z.1 40) s).2.2.1 q) n 0 (k : Int) (by omega)
          have b10 : (10 : Int) ^ n ≤ 10 ^ 10 := by exact_mod_cast Nat.pow_le_pow_right (n := 10) (by decide) (by omega)
          have p10 : (10 : Int) ^ 10 = 10000000000 := by decide
          have eb := hp_rn hw (z.1 43) (z.1 44) n 0 (k : Int) (by omega)
          have hi15 := hw.2.1
          have hb := bt_eq (s := (autR (z.1 40) s).2.1) (q := (k : Int)) (by omega)
          have ha := bt_and hw.2.1 (hr n 0) (q := (k : Int)) (by omega)
          have q8 := loop (i + 1) 0 z' (by omega) h0 f1 k1 e8 o1
          refine hc 20 _ _ _ fun _ _ => ?_
          simp only [pvSt1]
          simp only [g40, gi, eR, hb, pvE_aload_n0, pvLA_s, pvLd, pvE_iconst, pvE_putfield, pvPf_0, pvPf_1, fX10_73, pvSh_0, pvSh_1, pvSh_2, pvSh_3, pvSh_4, pvSh_5, pvSh_6, pvSh_7, pvSh_8, pvSh_9, pvSh_10, pvSh_11, pvSh_12, pvSh_13, pvSh_14, pvSh_15, pvSh_16, pvSh_17, pvSh_18, pvSh_19, pvSh_20, pvSh_21, pvSh_22, pvSh_23, pvSh_24, pvSh_25, pvSh_26, pvSh_27, pvSh_28, pvSh_29, pvSh_30, pvSh_31, pvSh_32, pvSh_33, pvSh_34, pvSh_35, pvSh_36, pvSh_37, pvSh_38, pvSh_39, pvSh_40, pvSh_41, pvSh_42, pvSh_43, pvSh_44, pvSh_45, pvSh_46, pvSh_47, pvSh_48, pvSh_49, pvSh_50, pvSh_51, pvSh_52, pvSh_53, pvSh_54, pvSh_55, pvSh_56, pvSh_57, pvSh_58, pvSh_59, pvE_iload_n1, pvLI_s, pvE_invokestatic (h0 := eX10_80), pvC1_s, pvC2_s, pvAf_v, pvAf_x, pvPop, pvCs, pvCat, pvPush, aX10_firstRun_80, pvE_if_eq, pvE_iload_n2, pvE_invokevirtual, aX10_firstRun_161, pvE_if_ne, aX10_firstRun_87, pvE_ireturn, aX10_firstRun_187, pvE_lconst0, pvE_lcmp, pvE_istore_n3, pvS1, List.length_cons, List.length_nil, pvClr_i, pvClr_r, pvClr_l, pvClr_d, pvClr_f, pvClr_n, pvE_getfield, pvGf_0, pvGf_1, pvGf_2, fX10_7, pvRf_0_0, pvRf_0_1, pvRf_0_2, pvRf_0_3, pvRf_0_4, pvRf_0_5, pvRf_0_6, pvRf_0_7, pvRf_0_8, pvRf_0_9, pvRf_0_10, pvRf_1_0, pvRf_3_0, pvRf_5_0, pvRf_5_1, pvRf_5_2, pvRf_9_0, pvRf_9_1, pvRf_9_2, pvRf_13_0, pvRf_13_1, pvRf_13_2, pvRf_17_0, pvRf_17_2, pvRf_20_0, pvRf_20_1, pvRf_20_2, pvRf_24_0, pvRf_24_1, pvRf_24_2, pvRf_28_0, pvRf_28_1, pvRf_28_2, pvRf_28_3, pvRf_33_0, pvRf_33_1, pvRf_36_0, pvRf_36_1, pvRf_39_0, pvRf_39_1, pvRf_39_2, pvRf_39_5, pvRf_39_6, pvRf_39_9, pvRf_39_13, pvRf_39_15, pvRf_39_16, pvRf_39_17, pvRf_39_19, pvRf_39_20, pvRf_39_22, pvRf_39_23, pvRf_39_24, pvRf_39_25, pvRf_39_29, pvRf_39_30, pvE_sipush, pvE_imul, pvE_iaload, pvAI, pvE_iload_n3, pvE_ishr, pvE_iand, fX10_35, pvE_laload, pvAL, pvE_iinc, pvIc_s, pvE_goto, pvE_istore, pvE_iload, pvE_icmp_gt, aX10_firstRun_191, pvE_invokestatic (h0 := eX10_130), aX10_firstRun_130, pvE_iadd, bX10_firstRun_0, uX10_firstRun_0, bX10_firstRun_20, uX10_firstRun_20, bX10_firstRun_26, uX10_firstRun_26, bX10_firstRun_43, uX10_firstRun_43, bX10_firstRun_45, uX10_firstRun_45, bX10_firstRun_73, uX10_firstRun_73, bX10_firstRun_79, uX10_firstRun_79, bX10_firstRun_85, uX10_firstRun_85, bX10_firstRun_121, uX10_firstRun_121, pvMk_t, pvMk_f, pvMk_n, pvRecv_r, pvUp_nl, pvUp_same, pvUp_ap, pvSt_ap, pvX_c, pvX_ms, pvX_mn, pvE_nil, pvEn_i, pvEn_r, pvEn_l, pvEn_0, pvEn_s, pvRt, pvRv, pvTh, pvKc, pvGo, pvTgt, Int.toNat_natCast, false_and, and_false, true_and, and_true, if_true, if_false, reduceIte, reduceCtorEq, forall_const, false_or, or_false, true_or, or_true, ne_eq, not_true_eq_false, not_false_eq_true, implies_true, false_implies, Nat.reduceAdd, Nat.reduceSub, Nat.reduceMul, Nat.reduceEqDiff, Nat.reduceLT, Nat.reduceLeDiff, Int.reduceAdd, Int.reduceSub, Int.reduceMul, Int.reduceNeg, Int.reduceToNat, Int.reduceLE, Int.reduceLT, Int.reduceEq, Int.reduceNe, and_self]
          by_cases hx : m = 0
          · have ek : (k : Int) = lbF (pvAnd (autR (z.1 40) s).2.1 (hpK (autR (z.1 40) s) (z.1 43) (z.1 44) n 0)) := by omega
            rw [← ek] at hlo
            rw [ha, Bool.and_eq_true] at hlo
            have e9 := eb.mp hlo.2
            rw [hlo.1]
            have e7 : (frK (autR (z.1 40) s) (z.1 43) (z.1 44) n 0).1 = (k : Int) := ek.symm
            have e6 : (frK (autR (z.1 40) s) (z.1 43) (z.1 44) n 0).2 = -1 := rfl
            rw [e7, e6] at q8
            simp only [if_true, reduceIte]
            (repeat' (first | with_reducible apply And.intro | intro _))
            all_goals first
              | omega
              | contradiction
              | exact q8
              | (exfalso; rename ¬ _ => hh; revert hh; split <;> omega)
          · have q9 := ih (m - 1) (by omega) (k + 1) z' (by omega) h0 f1 k1 e8 o1
            have hlk : btF (pvAnd (autR (z.1 40) s).2.1 (hpK (autR (z.1 40) s) (z.1 43) (z.1 44) n 0)) (k : Int) = false := by
              have hlt : (k : Int) < lbF (pvAnd (autR (z.1 40) s).2.1 (hpK (autR (z.1 40) s) (z.1 43) (z.1 44) n 0)) := by omega
              revert hlt
              unfold lbF
              have : k = 0 ∨ k = 1 ∨ k = 2 ∨ 3 ≤ k := by omega
              rcases this with rfl | rfl | rfl | h9
              · (repeat' split) <;> simp_all
              · (repeat' split) <;> simp_all
              · (repeat' split) <;> simp_all
              · (repeat' split) <;> intro <;> omega
            rw [ha] at hlk
            cases hbt : btF (autR (z.1 40) s).2.1 (k : Int)
            · simp only [Bool.false_eq_true, if_false, reduceIte]
              (repeat' (first | with_reducible apply And.intro | intro _))
              all_goals first
                | omega
                | contradiction
                | exact q9
            · rw [hbt, Bool.true_and] at hlk
              have e7 : rnB (autR (z.1 40) s) (z.1 43) (z.1 44) (biF (autR (z.1 40) s).2.2.1) n 0 (k : Int) = 0 := by
                by_cases e8 : rnB (autR (z.1 40) s) (z.1 43) (z.1 44) (biF (autR (z.1 40) s).2.2.1) n 0 (k : Int) = 0
                · exact e8
                · rw [eb.mpr e8] at hlk; exact absurd hlk (by decide)
              rw [e7]
              simp only [if_true, reduceIte]
              (repeat' (first | with_reducible apply And.intro | intro _))
              all_goals first
                | omega
                | contradiction
                | exact q9
                | (exfalso; rename ¬ _ => hh; exact hh (by decide))
      have p43 : ∀ z' : pvM, ¬ pvAnd (autR (z.1 40) s).2.1 (hpK (autR (z.1 40) s) (z.1 43) (z.1 44) n 0) = 0 → frF [39] [47] z z' → (∀ j, j ≠ 8 → z'.1 39 j = z.1 39 j) → z'.1 39 8 = 0 → rlF z' s →
          SW 43 [some (vR 39), some (vI s), some (vI (i : Int)), none, none, none] z' := by
        intro z' h0 f1 k1 e8 o1
        have hl3 := lbF_r (pvAnd (autR (z.1 40) s).2.1 (hpK (autR (z.1 40) s) (z.1 43) (z.1 44) n 0))
        have q9 := seek (lbF (pvAnd (autR (z.1 40) s).2.1 (hpK (autR (z.1 40) s) (z.1 43) (z.1 44) n 0))).toNat 0 z' (by omega) h0 f1 k1 e8 o1
        refine hc 20 _ _ _ fun _ _ => ?_
        clear hc seek loop
        simp only [pvSt1]
        simp only [pvE_aload_n0, pvLA_s, pvLd, pvE_iconst, pvE_putfield, pvPf_0, pvPf_1, fX10_73, pvSh_0, pvSh_1, pvSh_2, pvSh_3, pvSh_4, pvSh_5, pvSh_6, pvSh_7, pvSh_8, pvSh_9, pvSh_10, pvSh_11, pvSh_12, pvSh_13, pvSh_14, pvSh_15, pvSh_16, pvSh_17, pvSh_18, pvSh_19, pvSh_20, pvSh_21, pvSh_22, pvSh_23, pvSh_24, pvSh_25, pvSh_26, pvSh_27, pvSh_28, pvSh_29, pvSh_30, pvSh_31, pvSh_32, pvSh_33, pvSh_34, pvSh_35, pvSh_36, pvSh_37, pvSh_38, pvSh_39, pvSh_40, pvSh_41, pvSh_42, pvSh_43, pvSh_44, pvSh_45, pvSh_46, pvSh_47, pvSh_48, pvSh_49, pvSh_50, pvSh_51, pvSh_52, pvSh_53, pvSh_54, pvSh_55, pvSh_56, pvSh_57, pvSh_58, pvSh_59, pvE_iload_n1, pvLI_s, pvE_invokestatic (h0 := eX10_80), pvC1_s, pvC2_s, pvAf_v, pvAf_x, pvPop, pvCs, pvCat, pvPush, aX10_firstRun_80, pvE_if_eq, pvE_iload_n2, pvE_invokevirtual, aX10_firstRun_161, pvE_if_ne, aX10_firstRun_87, pvE_ireturn, aX10_firstRun_187, pvE_lconst0, pvE_lcmp, pvE_istore_n3, pvS1, List.length_cons, List.length_nil, pvClr_i, pvClr_r, pvClr_l, pvClr_d, pvClr_f, pvClr_n, pvE_getfield, pvGf_0, pvGf_1, pvGf_2, fX10_7, pvRf_0_0, pvRf_0_1, pvRf_0_2, pvRf_0_3, pvRf_0_4, pvRf_0_5, pvRf_0_6, pvRf_0_7, pvRf_0_8, pvRf_0_9, pvRf_0_10, pvRf_1_0, pvRf_3_0, pvRf_5_0, pvRf_5_1, pvRf_5_2, pvRf_9_0, pvRf_9_1, pvRf_9_2, pvRf_13_0, pvRf_13_1, pvRf_13_2, pvRf_17_0, pvRf_17_2, pvRf_20_0, pvRf_20_1, pvRf_20_2, pvRf_24_0, pvRf_24_1, pvRf_24_2, pvRf_28_0, pvRf_28_1, pvRf_28_2, pvRf_28_3, pvRf_33_0, pvRf_33_1, pvRf_36_0, pvRf_36_1, pvRf_39_0, pvRf_39_1, pvRf_39_2, pvRf_39_5, pvRf_39_6, pvRf_39_9, pvRf_39_13, pvRf_39_15, pvRf_39_16, pvRf_39_17, pvRf_39_19, pvRf_39_20, pvRf_39_22, pvRf_39_23, pvRf_39_24, pvRf_39_25, pvRf_39_29, pvRf_39_30, pvE_sipush, pvE_imul, pvE_iaload, pvAI, pvE_iload_n3, pvE_ishr, pvE_iand, fX10_35, pvE_laload, pvAL, pvE_iinc, pvIc_s, pvE_goto, pvE_istore, pvE_iload, pvE_icmp_gt, aX10_firstRun_191, pvE_invokestatic (h0 := eX10_130), aX10_firstRun_130, pvE_iadd, bX10_firstRun_0, uX10_firstRun_0, bX10_firstRun_20, uX10_firstRun_20, bX10_firstRun_26, uX10_firstRun_26, bX10_firstRun_43, uX10_firstRun_43, bX10_firstRun_45, uX10_firstRun_45, bX10_firstRun_73, uX10_firstRun_73, bX10_firstRun_79, uX10_firstRun_79, bX10_firstRun_85, uX10_firstRun_85, bX10_firstRun_121, uX10_firstRun_121, pvMk_t, pvMk_f, pvMk_n, pvRecv_r, pvUp_nl, pvUp_same, pvUp_ap, pvSt_ap, pvX_c, pvX_ms, pvX_mn, pvE_nil, pvEn_i, pvEn_r, pvEn_l, pvEn_0, pvEn_s, pvRt, pvRv, pvTh, pvKc, pvGo, pvTgt, Int.toNat_natCast, false_and, and_false, true_and, and_true, if_true, if_false, reduceIte, reduceCtorEq, forall_const, false_or, or_false, true_or, or_true, ne_eq, not_true_eq_false, not_false_eq_true, implies_true, false_implies, Nat.reduceAdd, Nat.reduceSub, Nat.reduceMul, Nat.reduceEqDiff, Nat.reduceLT, Nat.reduceLeDiff, Int.reduceAdd, Int.reduceSub, Int.reduceMul, Int.reduceNeg, Int.reduceToNat, Int.reduceLE, Int.reduceLT, Int.reduceEq, Int.reduceNe, and_self]
        (repeat' (first | with_reducible apply And.intro | intro _))
        all_goals first
          | omega
          | exact q9
      refine hc 20 _ _ _ fun _ _ => ?_
      clear hc hS hz seek loop
      simp only [pvSt1]
      simp only [C_X10_isSlot, C_X10_isEvent, C_X10_fails, C_X10_countsRuns, en, pvE_aload_n0, pvLA_s, pvLd, pvE_iconst, pvE_putfield, pvPf_0, pvPf_1, fX10_73, pvSh_0, pvSh_1, pvSh_2, pvSh_3, pvSh_4, pvSh_5, pvSh_6, pvSh_7, pvSh_8, pvSh_9, pvSh_10, pvSh_11, pvSh_12, pvSh_13, pvSh_14, pvSh_15, pvSh_16, pvSh_17, pvSh_18, pvSh_19, pvSh_20, pvSh_21, pvSh_22, pvSh_23, pvSh_24, pvSh_25, pvSh_26, pvSh_27, pvSh_28, pvSh_29, pvSh_30, pvSh_31, pvSh_32, pvSh_33, pvSh_34, pvSh_35, pvSh_36, pvSh_37, pvSh_38, pvSh_39, pvSh_40, pvSh_41, pvSh_42, pvSh_43, pvSh_44, pvSh_45, pvSh_46, pvSh_47, pvSh_48, pvSh_49, pvSh_50, pvSh_51, pvSh_52, pvSh_53, pvSh_54, pvSh_55, pvSh_56, pvSh_57, pvSh_58, pvSh_59, pvE_iload_n1, pvLI_s, pvE_invokestatic (h0 := eX10_80), pvC1_s, pvC2_s, pvAf_v, pvAf_x, pvPop, pvCs, pvCat, pvPush, aX10_firstRun_80, pvE_if_eq, pvE_iload_n2, pvE_invokevirtual, aX10_firstRun_161, pvE_if_ne, aX10_firstRun_87, pvE_ireturn, aX10_firstRun_187, pvE_lconst0, pvE_lcmp, pvE_istore_n3, pvS1, List.length_cons, List.length_nil, pvClr_i, pvClr_r, pvClr_l, pvClr_d, pvClr_f, pvClr_n, pvE_getfield, pvGf_0, pvGf_1, pvGf_2, fX10_7, pvRf_0_0, pvRf_0_1, pvRf_0_2, pvRf_0_3, pvRf_0_4, pvRf_0_5, pvRf_0_6, pvRf_0_7, pvRf_0_8, pvRf_0_9, pvRf_0_10, pvRf_1_0, pvRf_3_0, pvRf_5_0, pvRf_5_1, pvRf_5_2, pvRf_9_0, pvRf_9_1, pvRf_9_2, pvRf_13_0, pvRf_13_1, pvRf_13_2, pvRf_17_0, pvRf_17_2, pvRf_20_0, pvRf_20_1, pvRf_20_2, pvRf_24_0, pvRf_24_1, pvRf_24_2, pvRf_28_0, pvRf_28_1, pvRf_28_2, pvRf_28_3, pvRf_33_0, pvRf_33_1, pvRf_36_0, pvRf_36_1, pvRf_39_0, pvRf_39_1, pvRf_39_2, pvRf_39_5, pvRf_39_6, pvRf_39_9, pvRf_39_13, pvRf_39_15, pvRf_39_16, pvRf_39_17, pvRf_39_19, pvRf_39_20, pvRf_39_22, pvRf_39_23, pvRf_39_24, pvRf_39_25, pvRf_39_29, pvRf_39_30, pvE_sipush, pvE_imul, pvE_iaload, pvAI, pvE_iload_n3, pvE_ishr, pvE_iand, fX10_35, pvE_laload, pvAL, pvE_iinc, pvIc_s, pvE_goto, pvE_istore, pvE_iload, pvE_icmp_gt, aX10_firstRun_191, pvE_invokestatic (h0 := eX10_130), aX10_firstRun_130, pvE_iadd, bX10_firstRun_0, uX10_firstRun_0, bX10_firstRun_20, uX10_firstRun_20, bX10_firstRun_26, uX10_firstRun_26, bX10_firstRun_43, uX10_firstRun_43, bX10_firstRun_45, uX10_firstRun_45, bX10_firstRun_73, uX10_firstRun_73, bX10_firstRun_79, uX10_firstRun_79, bX10_firstRun_85, uX10_firstRun_85, bX10_firstRun_121, uX10_firstRun_121, pvMk_t, pvMk_f, pvMk_n, pvRecv_r, pvUp_nl, pvUp_same, pvUp_ap, pvSt_ap, pvX_c, pvX_ms, pvX_mn, pvE_nil, pvEn_i, pvEn_r, pvEn_l, pvEn_0, pvEn_s, pvRt, pvRv, pvTh, pvKc, pvGo, pvTgt, Int.toNat_natCast, false_and, and_false, true_and, and_true, if_true, if_false, reduceIte, reduceCtorEq, forall_const, false_or, or_false, true_or, or_true, ne_eq, not_true_eq_false, not_false_eq_true, implies_true, false_implies, Nat.reduceAdd, Nat.reduceSub, Nat.reduceMul, Nat.reduceEqDiff, Nat.reduceLT, Nat.reduceLeDiff, Int.reduceAdd, Int.reduceSub, Int.reduceMul, Int.reduceNeg, Int.reduceToNat, Int.reduceLE, Int.reduceLT, Int.reduceEq, Int.reduceNe, and_self]
      have hd' : WdF (n : Int) (z.1 43) (z.1 44) := by rw [← en]; exact hd
      (repeat' (first | with_reducible apply And.intro | intro _))
      all_goals first
        | omega
        | assumption
        | contradiction
        | skip
      all_goals
        rename_i z1 f1 o1 e
        have k1 : ∀ j, z1.1 39 j = if j = 8 then 0 else z.1 39 j := fun j => by rw [f1.1 39 (by decide)]; simp [pvUp_ap]
        have f2 : frF [39] [47] z z1 := frF_t (frF_u frF_0 (by decide)) f1 (by decide) (by decide)
        have g40 : z1.1 40 = z.1 40 := by rw [f1.1 40 (by decide)]; simp only [pvUp_nl, pvSt_ne, pvSt_eq, ne_eq, Nat.reduceEqDiff, not_false_eq_true]
        have g43 : z1.1 43 = z.1 43 := by rw [f1.1 43 (by decide)]; simp only [pvUp_nl, pvSt_ne, pvSt_eq, ne_eq, Nat.reduceEqDiff, not_false_eq_true]
        have g44 : z1.1 44 = z.1 44 := by rw [f1.1 44 (by decide)]; simp only [pvUp_nl, pvSt_ne, pvSt_eq, ne_eq, Nat.reduceEqDiff, not_false_eq_true]
        have o2 : rlF z1 s := by
          intro i m q h1 h2
          rw [k1 7, if_neg (by decide), en] at h1
          rw [g40, g43, g44]
          exact o1 i m q h1 h2
        by_cases h0 : pvAnd (autR (z.1 40) s).2.1 (hpK (autR (z.1 40) s) (z.1 43) (z.1 44) n 0) = 0
        · rw [hru.mpr h0] at e
          first
            | (exfalso; exact e (by decide))
            | exact (h3 (pvUp z1.1 39 8 2, z1.2) (frF_u f2 (by decide)) (fun j hj => by simp only [pvUp_ap]; rw [if_neg (by simp [hj]), k1 j, if_neg hj])).1 h0 (by simp [pvUp_ap])
        · first
            | exact p43 z1 h0 f2 (fun j hj => by rw [k1 j, if_neg hj]) (by rw [k1 8, if_pos rfl]) o2
            | (exfalso
               have hne := mt hru.mp h0
               revert e
               rw [if_pos (by omega)]
               decide)
    · have h3 := h1 hv
      refine hc 20 _ _ _ fun _ _ => ?_
      clear hc hS hz
      simp only [pvSt1]
      simp only [C_X10_isSlot, C_X10_isEvent, C_X10_fails, pvE_aload_n0, pvLA_s, pvLd, pvE_iconst, pvE_putfield, pvPf_0, pvPf_1, fX10_73, pvSh_0, pvSh_1, pvSh_2, pvSh_3, pvSh_4, pvSh_5, pvSh_6, pvSh_7, pvSh_8, pvSh_9, pvSh_10, pvSh_11, pvSh_12, pvSh_13, pvSh_14, pvSh_15, pvSh_16, pvSh_17, pvSh_18, pvSh_19, pvSh_20, pvSh_21, pvSh_22, pvSh_23, pvSh_24, pvSh_25, pvSh_26, pvSh_27, pvSh_28, pvSh_29, pvSh_30, pvSh_31, pvSh_32, pvSh_33, pvSh_34, pvSh_35, pvSh_36, pvSh_37, pvSh_38, pvSh_39, pvSh_40, pvSh_41, pvSh_42, pvSh_43, pvSh_44, pvSh_45, pvSh_46, pvSh_47, pvSh_48, pvSh_49, pvSh_50, pvSh_51, pvSh_52, pvSh_53, pvSh_54, pvSh_55, pvSh_56, pvSh_57, pvSh_58, pvSh_59, pvE_iload_n1, pvLI_s, pvE_invokestatic (h0 := eX10_80), pvC1_s, pvC2_s, pvAf_v, pvAf_x, pvPop, pvCs, pvCat, pvPush, aX10_firstRun_80, pvE_if_eq, pvE_iload_n2, pvE_invokevirtual, aX10_firstRun_161, pvE_if_ne, aX10_firstRun_87, pvE_ireturn, aX10_firstRun_187, pvE_lconst0, pvE_lcmp, pvE_istore_n3, pvS1, List.length_cons, List.length_nil, pvClr_i, pvClr_r, pvClr_l, pvClr_d, pvClr_f, pvClr_n, pvE_getfield, pvGf_0, pvGf_1, pvGf_2, fX10_7, pvRf_0_0, pvRf_0_1, pvRf_0_2, pvRf_0_3, pvRf_0_4, pvRf_0_5, pvRf_0_6, pvRf_0_7, pvRf_0_8, pvRf_0_9, pvRf_0_10, pvRf_1_0, pvRf_3_0, pvRf_5_0, pvRf_5_1, pvRf_5_2, pvRf_9_0, pvRf_9_1, pvRf_9_2, pvRf_13_0, pvRf_13_1, pvRf_13_2, pvRf_17_0, pvRf_17_2, pvRf_20_0, pvRf_20_1, pvRf_20_2, pvRf_24_0, pvRf_24_1, pvRf_24_2, pvRf_28_0, pvRf_28_1, pvRf_28_2, pvRf_28_3, pvRf_33_0, pvRf_33_1, pvRf_36_0, pvRf_36_1, pvRf_39_0, pvRf_39_1, pvRf_39_2, pvRf_39_5, pvRf_39_6, pvRf_39_9, pvRf_39_13, pvRf_39_15, pvRf_39_16, pvRf_39_17, pvRf_39_19, pvRf_39_20, pvRf_39_22, pvRf_39_23, pvRf_39_24, pvRf_39_25, pvRf_39_29, pvRf_39_30, pvE_sipush, pvE_imul, pvE_iaload, pvAI, pvE_iload_n3, pvE_ishr, pvE_iand, fX10_35, pvE_laload, pvAL, pvE_iinc, pvIc_s, pvE_goto, pvE_istore, pvE_iload, pvE_icmp_gt, aX10_firstRun_191, pvE_invokestatic (h0 := eX10_130), aX10_firstRun_130, pvE_iadd, bX10_firstRun_0, uX10_firstRun_0, bX10_firstRun_20, uX10_firstRun_20, bX10_firstRun_26, uX10_firstRun_26, bX10_firstRun_43, uX10_firstRun_43, bX10_firstRun_45, uX10_firstRun_45, bX10_firstRun_73, uX10_firstRun_73, bX10_firstRun_79, uX10_firstRun_79, bX10_firstRun_85, uX10_firstRun_85, bX10_firstRun_121, uX10_firstRun_121, pvMk_t, pvMk_f, pvMk_n, pvRecv_r, pvUp_nl, pvUp_same, pvUp_ap, pvSt_ap, pvX_c, pvX_ms, pvX_mn, pvE_nil, pvEn_i, pvEn_r, pvEn_l, pvEn_0, pvEn_s, pvRt, pvRv, pvTh, pvKc, pvGo, pvTgt, Int.toNat_natCast, false_and, and_false, true_and, and_true, if_true, if_false, reduceIte, reduceCtorEq, forall_const, false_or, or_false, true_or, or_true, ne_eq, not_true_eq_false, not_false_eq_true, implies_true, false_implies, Nat.reduceAdd, Nat.reduceSub, Nat.reduceMul, Nat.reduceEqDiff, Nat.reduceLT, Nat.reduceLeDiff, Int.reduceAdd, Int.reduceSub, Int.reduceMul, Int.reduceNeg, Int.reduceToNat, Int.reduceLE, Int.reduceLT, Int.reduceEq, Int.reduceNe, and_self]
      (repeat' (first | with_reducible apply And.intro | intro _))
      all_goals first
        | omega
        | assumption
        | contradiction
  · exact h.elim
