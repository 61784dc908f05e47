def frF (ids jds : List Nat) (z z' : pvM) : Prop := (∀ id, id ∉ ids → z'.1 id = z.1 id) ∧ (∀ id, id ∉ jds → z'.2.1 id = z.2.1 id) ∧ z'.2.2 = z.2.2
theorem frF_0 {ids jds : List Nat} {z : pvM} : frF ids jds z z := ⟨fun _ _ => rfl, fun _ _ => rfl, rfl⟩
theorem frF_u {ids jds : List Nat} {z : pvM} {a : Nat → Nat → Int} {b : (Nat → Nat → Int) × (Nat → Nat → UInt64)} {i k : Nat} {v : Int} (h : frF ids jds z (a, b)) (hi : i ∈ ids) : frF ids jds z (pvUp a i k v, b) :=
  ⟨fun id hid => by rw [← h.1 id hid]; exact pvUp_ne (fun e => hid (e ▸ hi)), h.2⟩
theorem frF_s {ids jds : List Nat} {z : pvM} {a : Nat → Nat → Int} {b : (Nat → Nat → Int) × (Nat → Nat → UInt64)} {i : Nat} {g : Nat → Int} (h : frF ids jds z (a, b)) (hi : i ∈ ids) : frF ids jds z (pvSt a i g, b) :=
  ⟨fun id hid => by rw [← h.1 id hid]; exact pvSt_ne (fun e => hid (e ▸ hi)), h.2⟩
theorem frF_l {ids jds : List Nat} {z : pvM} {a : Nat → Nat → Int} {b : Nat → Nat → Int} {c : Nat → Nat → UInt64} {i k : Nat} {v : Int} (h : frF ids jds z (a, b, c)) (hi : i ∈ jds) : frF ids jds z (a, pvUp b i k v, c) :=
  ⟨h.1, fun id hid => by rw [← h.2.1 id hid]; exact pvUp_ne (fun e => hid (e ▸ hi)), h.2.2⟩
theorem frF_t {ids jds a b : List Nat} {z z' z'' : pvM} (h : frF ids jds z z') (h' : frF a b z' z'') (ha : ∀ x ∈ a, x ∈ ids) (hb : ∀ x ∈ b, x ∈ jds) : frF ids jds z z'' :=
  ⟨fun id hid => by rw [h'.1 id (fun q => hid (ha id q)), h.1 id hid], fun id hid => by rw [h'.2.1 id (fun q => hid (hb id q)), h.2.1 id hid], by rw [h'.2.2, h.2.2]⟩
theorem pvUp_id {f : Nat → Nat → Int} {i k : Nat} : pvUp f i k (f i k) = f := by
  funext a b
  unfold pvUp
  split
  · rename_i h
    rw [h.1, h.2]
  · rfl

