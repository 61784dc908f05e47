/-! texts that live on, numbers of the law's rows -/
theorem sbQ.re {A B : Nat → Prop} {a b n : Nat} {f : Nat → Int32} {U : State} {H : Heap} (h : sbQ A a b n f U H) (h1 : ¬ B a) (h2 : ¬ B b) : sbQ B a b n f U H := by
  obtain ⟨⟨c1, p1, p2, p3, -⟩, ⟨q1, q2, q3, q4, c2, q5, q6, q7, q8, q9, -⟩, ⟨r1, r2, r3, r4, c3, r5, r6, r7, r8, r9, -⟩, c4, s1, s2, s3, s4, s5, s6, -⟩ := h
  exact ⟨⟨c1, p1, p2, p3, h1⟩, ⟨q1, q2, q3, q4, c2, q5, q6, q7, q8, q9, h1⟩, ⟨r1, r2, r3, r4, c3, r5, r6, r7, r8, r9, h1⟩, c4, s1, s2, s3, s4, s5, s6, h2⟩
/-- a text, whatever may change beside it -/
def tbK (a b : Nat) (xs : List Nat) (s : State) (H : Heap) : Prop := tbL (fun q => q ≠ a ∧ q ≠ b) a b xs s H
theorem tbK.at {a b : Nat} {xs : List Nat} {s : State} {H : Heap} (h : tbK a b xs s H) {B : Nat → Prop} (h1 : ¬ B a) (h2 : ¬ B b) : tbL B a b xs s H := sbQ.re h h1 h2
theorem tbK.of {a b : Nat} {xs : List Nat} {s : State} {H : Heap} {A : Nat → Prop} (h : tbL A a b xs s H) : tbK a b xs s H := sbQ.re h (fun h => h.1 rfl) (fun h => h.2 rfl)
theorem tbK.lt {a b : Nat} {xs : List Nat} {s : State} {H : Heap} (h : tbK a b xs s H) : a < H.size ∧ b < H.size := by
  obtain ⟨⟨c1, p1, -⟩, -, -, c4, s1, -⟩ := h
  exact ⟨(Array.getElem?_eq_some_iff.mp p1).1, (Array.getElem?_eq_some_iff.mp s1).1⟩
theorem tbK.kept {a b : Nat} {xs : List Nat} {s : State} {H H1 : Heap} (h : tbK a b xs s H) (h1 : H1[a]? = H[a]?) (h2 : H1[b]? = H[b]?) : tbK a b xs s H1 := by
  refine sbQ.kept h (fun q _ hq => ?_)
  by_cases e : q = a
  · rw [e]; exact h1
  · by_cases e2 : q = b
    · rw [e2]; exact h2
    · exact absurd ⟨e, e2⟩ hq
theorem tbK.fr {a b : Nat} {xs : List Nat} {s : State} {H H1 : Heap} (h : tbK a b xs s H) (hF : sbFr H H1) : tbK a b xs s H1 := h.kept (hF.2 _ h.lt.1) (hF.2 _ h.lt.2)
set_option maxHeartbeats 1000000 in
/-- a number of the law's row -/
theorem fl_ld {p : Program} {l : Launch} {e : Env} {R : Room} {s : State} {m : MethodId} {args : Array Value} {below : List Frame} {meth : Method} {c : Code} {H : Heap} {locs : List Loc} {cells slots pc : Nat} {ls : Array Slot} {rest : List Value} {Q : State → Prop} {cc : ByteArray} {D : va_G} {cI cJ cD : ClassId} {ad : Nat → Nat} {L : List Nat} {z : pvM} {id N : Nat}
    (hx : p.tables.exec = Jvm.exec) (hb : c.code = cc) (hK : va_K D vwCl (pvTy cI cJ cD) s) (hid : id ∈ L) (hsh : pvSh id = .inr (0, N)) (hP : va_P D vwCl (pvWs ad cI cJ cD L z) H)
    {n : Nat} (hn : n < N) (hN : N < 2 ^ 31) (hdg : decode cc pc = .ok (.iaload, 1))
    (kk : W p l e R s m args below meth c H locs cells slots Q (F0 m (pc + 1) ls (.int (Int32.ofInt (z.1 id n)) :: rest))) : W p l e R s m args below meth c H locs cells slots Q (F0 m pc ls (.int (Int32.ofNat n) :: .ref (ad id) :: rest)) := by
  refine va_iald hx hb hK hP (L.idxOf id) 0 (f := fun j => Int32.ofInt (z.1 id j)) (by rw [pvWs_get hid, pvE_i hsh]) rfl (sb_in hn hN) hdg ?_
  rw [sb_cn (by omega)]
  exact kk
theorem pvWc.blind2 {D : va_G} {cI cJ cD : ClassId} {sx : pvSx} {A : Nat → Prop} {ad : Nat → Nat} {L : List Nat} {z : pvM} {av : List Value} {E : State → Prop} (hE : ∀ U g mk a, E U → E (U.calling g mk a)) : FrameBlind (va_Pc av (fun U => pvPw ad D cI cJ cD sx L A z U ∧ E U)) := by
  intro a U g mk ⟨h0, ⟨h1, h2, h3⟩, h4⟩
  exact ⟨h0, ⟨pvWc_blind g mk a h1, h2, h3⟩, hE U g mk a h4⟩
theorem fl_ush (c : Int) : ∃ dn : Nat, ((Int32.ofInt c).toUInt32 >>> ((1 : Int32).toUInt32 &&& Int32.toUInt32 31)).toInt32 = Int32.ofNat dn ∧ dn < 2 ^ 31 := by
  have h := ush1_r c
  refine ⟨(pvUshr c 1).toNat, ?_, by omega⟩
  have e : ((Int32.ofInt c).toUInt32 >>> ((1 : Int32).toUInt32 &&& Int32.toUInt32 31)).toInt32 = Int32.ofInt (pvUshr c 1) := by
    unfold pvUshr
    rw [Int32.ofInt_toInt]
    rfl
  rw [e]
  show _ = Int32.ofInt (((pvUshr c 1).toNat : Nat) : Int)
  congr 1
  omega
theorem sb_le {a b : Nat} (h : a ≤ b) (hb : b < 2 ^ 31) : Int32.ofNat a ≤ Int32.ofNat b := by
  rw [Int32.le_iff_toInt_le, Int32.toInt_ofNat_of_lt (by omega), Int32.toInt_ofNat_of_lt hb]
  omega
theorem pvRng_u {z : pvM} {i k : Nat} {v : Int} (h : pvRng z) (hv : pvR v) : pvRng (pvUp z.1 i k v, z.2) := by
  intro j c
  show pvR (pvUp z.1 i k v j c)
  unfold pvUp
  split
  · exact hv
  · exact h j c
