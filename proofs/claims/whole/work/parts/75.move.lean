/-! A barge goes from one list to another. -/
section MV
variable {W9 : xWd} {d : Nat → Nat → Nat} {S S2 : cS} {M : mS}
theorem lDj.rem (h : lDj W9 d S M) (hd : dInj d) {k0 i0 p : Nat} (hk : isL M k0 i0) (hp : p < lCn S (d k0 i0)) : lDj W9 d (lRem S (d k0 i0) p) M ∧ ∀ k i, isL M k i → ¬ (k = k0 ∧ i = i0) → lSame S (lRem S (d k0 i0) p) (d k i) := by
  obtain ⟨n1, n2, n3, n4, n5⟩ := lRem_new (h.1 _ _ hk) hp
  have hnw : cRf S (d k0 i0) 1 ≠ wE W9 := by
    rcases (h.1 _ _ hk).2.2.2.2 with z | z
    · have := z.2; omega
    · exact z.1
  have hs : ∀ k i, isL M k i → ¬ (k = k0 ∧ i = i0) → lSame S (lRem S (d k0 i0) p) (d k i) := fun k i z hne => by
    refine lRem_same (fun y => hne (hd _ _ _ _ y)) (fun y => ?_)
    rcases h.2 k i k0 i0 z hk y with w | w
    · rw [y] at w; exact hnw w
    · exact hne w
  refine ⟨⟨fun k i z => ?_, fun k i k2 i2 z1 z2 z3 => ?_⟩, hs⟩
  · by_cases c : k = k0 ∧ i = i0
    · rw [c.1, c.2]; exact n1
    · exact (h.1 k i z).mono fr1_rem (hs k i z c)
  · have e : ∀ k i, isL M k i → cRf (lRem S (d k0 i0) p) (d k i) 1 = cRf S (d k i) 1 := fun k i z => by
      by_cases c : k = k0 ∧ i = i0
      · rw [c.1, c.2]; exact n3
      · exact (hs k i z c).rd.2.1
    rw [e k i z1] at z3 ⊢
    rw [e k2 i2 z2] at z3
    exact h.2 k i k2 i2 z1 z2 z3
theorem mv_lists (h : lDj W9 d S M) (hd : dInj d) {k1 i1 k2 i2 p v : Nat} {x : Int32} (h1 : isL M k1 i1) (h2 : isL M k2 i2) (hne : ¬ (k1 = k2 ∧ i1 = i2)) (hp : p < lCn S (d k1 i1)) (h30 : lCn S (d k2 i2) < 30) (hA : lAdd W9 (cSetI (lRem S (d k1 i1) p) (d k2 i2) 0 x) (d k2 i2) v S2) : fr1 S S2 ∧ lDj W9 d S2 M ∧ (∀ k i, isL M k i → ¬ (k = k1 ∧ i = i1) → ¬ (k = k2 ∧ i = i2) → lSame S S2 (d k i)) ∧ (lCn S2 (d k1 i1) = lCn S (d k1 i1) - 1 ∧ (∀ i, i < p → lNth S2 (d k1 i1) i = lNth S (d k1 i1) i) ∧ ∀ i, p ≤ i → i < lCn S (d k1 i1) - 1 → lNth S2 (d k1 i1) i = lNth S (d k1 i1) (i + 1)) ∧ (lCn S2 (d k2 i2) = lCn S (d k2 i2) + 1 ∧ (∀ i, i < lCn S (d k2 i2) → lNth S2 (d k2 i2) i = lNth S (d k2 i2) i) ∧ lNth S2 (d k2 i2) (lCn S (d k2 i2)) = some v) := by
  obtain ⟨hj1, hs1⟩ := h.rem hd h1 hp
  obtain ⟨n1, n2, n3, n4, n5⟩ := lRem_new (h.1 _ _ h1) hp
  have f1 : fr1 S (cSetI (lRem S (d k1 i1) p) (d k2 i2) 0 x) := (fr1_rem (S := S) (L := d k1 i1) (p := p)).sI2 (by omega)
  have hm : ∀ k i, lSame (lRem S (d k1 i1) p) (cSetI (lRem S (d k1 i1) p) (d k2 i2) 0 x) (d k i) := fun k i => same_m
  have hj2 := hj1.keep (fr1_m (g := 0) (x := x) (L := d k2 i2) (by omega)) (fun k i _ => hm k i)
  have hsm2 := hs1 k2 i2 h2 (fun z => hne ⟨z.1.symm, z.2.symm⟩)
  have hc2 : lCn (cSetI (lRem S (d k1 i1) p) (d k2 i2) 0 x) (d k2 i2) = lCn S (d k2 i2) := by rw [(hm k2 i2).rd.1, hsm2.rd.1]
  obtain ⟨hj3, hs3⟩ := hj2.add hd h2 hA (by rw [hc2]; exact h30)
  obtain ⟨a1, a2, a3, a4, -, -⟩ := lAdd_new hA (hj2.1 _ _ h2) (by rw [hc2]; exact h30)
  rw [hc2] at a2 a3 a4
  have hs31 := hs3 k1 i1 h1 hne
  refine ⟨f1.trans (fr1_add hA), hj3, fun k i z y1 y2 => ((hs1 k i z y1).trans (hm k i)).trans (hs3 k i z y2), ⟨?_, fun i hi => ?_, fun i hi hi2 => ?_⟩, a2, fun i hi => ?_, a4⟩
  · rw [hs31.rd.1, (hm k1 i1).rd.1, n2]
  · rw [hs31.rd.2.2, (hm k1 i1).rd.2.2, n4 i hi]
  · rw [hs31.rd.2.2, (hm k1 i1).rd.2.2, n5 i hi hi2]
  · rw [a3 i hi, (hm k2 i2).rd.2.2, hsm2.rd.2.2]
end MV
