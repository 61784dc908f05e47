/-! the law's own body: what both fills leave -/
theorem fl_au {lim : Nat → Prop} {z z1 : pvM} {t k : Nat} {s : Int} (h : flS z z1 t s k) (h64 : 64 ≤ t) (hs : 0 ≤ s ∧ s ≤ 1) (hl : lim t) (hp : pvAI t = 10 * k) : auP lim z1 s t (autC (z.1 (rwC s))).2.1 (autC (z.1 (rwC s))).2.2.1 := by
  obtain ⟨-, -, ⟨a3, a4⟩, -, -, -, ⟨c1, c2, c3⟩, c4, -⟩ := h
  have hW : WfA (autC (z1.1 (rwC s))) := by
    rcases (show s = 0 ∨ s = 1 by omega) with rfl | rfl
    · exact a3.1
    · exact a4.1
  refine ⟨⟨⟨hl, by omega, h64, by rw [c1, hp]; omega⟩, hW, fun j hj => ?_⟩, c2.symm, c3.symm⟩
  exact c4 j (by omega)
theorem au_f {lim : Nat → Prop} {z z1 : pvM} {t : Nat} {s ini fin : Int} (h : auP lim z s t ini fin) (er : z1.1 (rwC s) = z.1 (rwC s)) (et : z1.1 t = z.1 t) : auP lim z1 s t ini fin := by
  unfold auP at *
  rw [er]
  exact ⟨trP_m h.1 et, h.2⟩
/-- both rows and the rest, after both fills -/
theorem law_inv {lim : Nat → Prop} {z z1 z2 : pvM} {t u k m : Nat} (h1 : flS (pvZr z t) z1 t 0 k) (h2 : flS (pvZr z1 u) z2 u 1 m) (ht : 64 ≤ t) (hu : 64 ≤ u) (hne : u ≠ t) (hlt : lim t) (hlu : lim u) (hpt : pvAI t = 10 * k) (hpu : pvAI u = 10 * m)
    (hp : psS z 13 emA) (hq : ∃ Qs, quF z Qs) (hw : WvF z.1) : lsP z2 ∧ auP lim z2 0 t (autC (z.1 2)).2.1 (autC (z.1 2)).2.2.1 ∧ auP lim z2 1 u (autC (z.1 4)).2.1 (autC (z.1 4)).2.2.1 ∧ z2.1 20 = z.1 20 := by
  have ez : ∀ i, i < 64 → (pvZr z t).1 i = z.1 i := fun i h => pvZr_ne z (by omega)
  have ez1 : ∀ i, i ≠ u → (pvZr z1 u).1 i = z1.1 i := fun i h => pvZr_ne z1 h
  have hA := fl_au h1 ht (by decide) hlt hpt
  have hB := fl_au h2 hu (by decide) hlu hpu
  obtain ⟨f1, -, -, -, -, o1, -, -, -⟩ := h1
  obtain ⟨f2, -, ⟨w2, w4⟩, ⟨-, -, n5, n9⟩, -, o2, -, -, -⟩ := h2
  have e : ∀ i, i < 64 → i ∉ [2, 4, 5, 9, 17, 18, 19, 36, 37] → z2.1 i = z.1 i := fun i hi hm => by
    simp at hm
    rw [f2.1 i (by simp; omega), ez1 i (by omega), f1.1 i (by simp; omega), ez i hi]
  have o1' : z1.1 4 = z.1 4 := o1.trans (ez 4 (by decide))
  have o2' : z2.1 2 = z1.1 2 := o2.trans (ez1 2 (by omega))
  refine ⟨⟨fun s hs => ?_, ?_, ?_, ?_⟩, ?_, ?_, e 20 (by decide) (by decide)⟩
  · rcases (show s = 0 ∨ s = 1 by omega) with rfl | rfl
    · exact ⟨w2, Or.inl n5, fun h => absurd (n5.symm.trans h) (by decide)⟩
    · exact ⟨w4, Or.inl n9, fun h => absurd (n9.symm.trans h) (by decide)⟩
  · obtain ⟨a1, a2, a3, a4, a5⟩ := hp
    exact ⟨a1, by show mvP (z2.1 14) emA; rw [e 14 (by decide) (by decide)]; exact a2, by rw [e 13 (by decide) (by decide)]; exact a3, by rw [e 13 (by decide) (by decide)]; exact a4, a5⟩
  · obtain ⟨Qs, h3⟩ := hq
    refine ⟨Qs, ?_⟩
    unfold quF at *
    rw [e 28 (by decide) (by decide), e 29 (by decide) (by decide), e 30 (by decide) (by decide)]
    exact h3
  · unfold WvF WcF at *
    rw [e 20 (by decide) (by decide), e 21 (by decide) (by decide), e 22 (by decide) (by decide), e 23 (by decide) (by decide)]
    exact hw
  · have et : z2.1 t = z1.1 t := (f2.1 t (by simp; omega)).trans (ez1 t (by omega))
    have hA' := au_f hA o2' et
    have e2 : (pvZr z t).1 (rwC 0) = z.1 2 := ez 2 (by decide)
    rw [e2] at hA'
    exact hA'
  · have e4 : (pvZr z1 u).1 (rwC 1) = z.1 4 := (ez1 4 (by omega)).trans o1'
    rw [e4] at hB
    exact hB
