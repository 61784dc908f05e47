def deF (z z' : pvM) : Prop := frF [39, 48, 49, 50, 51] [] z z' ∧ ∀ j, j ≠ 8 → j ≠ 18 → j ≠ 21 → z'.1 39 j = z.1 39 j
/-- there is such a set and letter -/
def abF (z : pvM) (s i a : Int) : Prop := (0 ≤ s ∧ s ≤ 1) ∧ (0 ≤ a ∧ a ≤ 2) ∧ 0 ≤ i ∧ i < (dsF (autR (z.1 40) s)).length
noncomputable def bzF (z : pvM) (s i a : Int) : List Int := brF (autR (z.1 40) s) (ndF (dsF (autR (z.1 40) s)) i.toNat) a
theorem deF_of {z z1 : pvM} {v : Int} (h : frF [39, 48, 49, 50, 51] [] z z1) (hk : ∀ j, j ≠ 18 → j ≠ 21 → z1.1 39 j = z.1 39 j) : deF z (pvUp z1.1 39 8 v, z1.2) ∧ (pvUp z1.1 39 8 v, z1.2).1 39 8 = v :=
  ⟨⟨frF_u h (by decide), fun j h1 h2 h3 => by show pvUp z1.1 39 8 v 39 j = _; rw [pvUp_ap, if_neg (by simp [h1])]; exact hk j h2 h3⟩, by show pvUp z1.1 39 8 v 39 8 = v; simp [pvUp_ap]⟩
theorem deF_of8 {z z1 : pvM} {v : Int} (h : frF [39, 48, 49] [] (pvUp z.1 39 8 v, z.2) z1) (hk : ∀ j, j ≠ 18 → z1.1 39 j = if j = 8 then v else z.1 39 j) : deF z z1 ∧ z1.1 39 8 = v :=
  ⟨⟨frF_t (frF_u frF_0 (by decide)) h (by decide) (by decide), fun j h1 h2 _ => by rw [hk j h2, if_neg h1]⟩, by rw [hk 8 (by decide), if_pos rfl]⟩
theorem deF_up {z z1 : pvM} {v : Int} (h : deF z z1) : deF z (pvUp z1.1 39 8 v, z1.2) ∧ (pvUp z1.1 39 8 v, z1.2).1 39 8 = v :=
  ⟨⟨frF_u h.1 (by decide), fun j h1 h2 h3 => by show pvUp z1.1 39 8 v 39 j = _; rw [pvUp_ap, if_neg (by simp [h1])]; exact h.2 j h1 h2 h3⟩, by show pvUp z1.1 39 8 v 39 8 = v; simp [pvUp_ap]⟩
