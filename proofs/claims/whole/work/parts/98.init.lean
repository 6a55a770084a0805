/-! The class's own constructor, run. -/
theorem jkd {W9 : xWd} {S : cS} {L n c : Nat} {f : Nat → Nat} (hc : cEl c) (h : lst W9 S L n f) (hk : ∀ i, i < n → cK S (f i) = c) : lKd S L c := ⟨hc, fun i hi b hb => by
  rw [h.2.1] at hi
  have h2 := h.2.2 i hi
  have e : some b = some (f i) := hb.symm.trans h2
  cases e
  exact hk i hi⟩
theorem jsec0 {W9 : xWd} {d : Nat → Nat → Nat} {S : cS} {a n0 q : Nat} {x : Int32} (h : jB a d S n0 0) (hl : jLs W9 d S n0 0) (hq : cDead S q) : cK (cSetI (cSetI (cSetI (cSetI (cNewO S q 6) q 601 30) q 605 2) q 606 3) q 600 x) q = 7 ∧ lCap W9 (cSetI (cSetI (cSetI (cSetI (cNewO S q 6) q 601 30) q 605 2) q 606 3) q 600 x) (d 6 0) ∧ lCn (cSetI (cSetI (cSetI (cSetI (cNewO S q 6) q 601 30) q 605 2) q 606 3) q 600 x) (d 6 0) = n0 ∧ lKd (cSetI (cSetI (cSetI (cSetI (cNewO S q 6) q 601 30) q 605 2) q 606 3) q 600 x) (d 6 0) 7 := by
  generalize hS1 : cSetI (cSetI (cSetI (cSetI (cNewO S q 6) q 601 30) q 605 2) q 606 3) q 600 x = S1
  have f1 : fr1 S S1 := by rw [← hS1]; exact ((((fr1_newO hq).sI hq).sI hq).sI hq).sI hq
  have hk := (hl.cap (k := 6) (i := 0) (Or.inl ⟨rfl, by omega⟩)).1
  have hs1 : lSame S S1 (d 6 0) := by
    rw [← hS1]
    exact ((((same_newO hk hq).trans (same_sI (Or.inl (by omega)))).trans (same_sI (Or.inl (by omega)))).trans (same_sI (Or.inl (by omega)))).trans (same_sI (Or.inl (by omega)))
  have hl1 := hl.1.1.mono f1 hs1
  exact ⟨by rw [← hS1, cK_setI, cK_setI, cK_setI, cK_setI, cK_newO, if_pos rfl], hl1.1, hl1.2.1, jkd (Or.inr (Or.inr (Or.inr (Or.inr rfl)))) hl1 (fun i hi => (f1.1 _ (live_of (h.2.2.2.2.2.1 i hi).1 (by omega))).trans (h.2.2.2.2.2.1 i hi).1)⟩
theorem jtie0 {W9 : xWd} {d : Nat → Nat → Nat} {S : cS} {a n1 r q : Nat} {b x y z : Int32} (h : jB a d S 7 n1) (hl : jLs W9 d S 7 n1) (hr : cDead S r) (hq : cDead (cNewO S r 5) q) : cK (cRow W9 (cNewO S r 5) r q b x y z) r = 6 ∧ lCap W9 (cRow W9 (cNewO S r 5) r q b x y z) (d 6 1) ∧ lCn (cRow W9 (cNewO S r 5) r q b x y z) (d 6 1) = n1 ∧ lKd (cRow W9 (cNewO S r 5) r q b x y z) (d 6 1) 6 := by
  obtain ⟨hqr, hq0⟩ := (dead_nO (by omega)).mp hq
  have hrq : (r = q) = False := eq_false (fun y => hqr y.symm)
  unfold cRow cLst
  generalize hS1 : cSetI (cSetI (cSetI (cSetI (cSetR (cSetR (cSetI (cNewO (cSetI (cNewO S r 5) r 504 2) q 0) q 0 0) q 1 (some (wE W9))) r 505 (some q)) r 500 b) r 501 x) r 502 y) r 503 z = S1
  have f0 : fr1 S (cSetI (cNewO S r 5) r 504 2) := (fr1_newO hr).sI hr
  have hq00 : cDead (cSetI (cNewO S r 5) r 504 2) q := hq
  have f1 : fr1 S S1 := by
    rw [← hS1]
    exact (((((((f0.nO hq00).sI hq0).sR hq0).sR hr).sI hr).sI hr).sI hr).sI hr
  have hk := (hl.cap (k := 6) (i := 1) (Or.inl ⟨rfl, by omega⟩)).1
  have lk := live_of hk (by omega)
  have hk2 : cK (cSetI (cNewO S r 5) r 504 2) (d 6 1) = 1 := (f0.1 _ lk).trans hk
  have nr : r ≠ d 6 1 := fun w => live_ne lk hr w.symm
  have nq : q ≠ d 6 1 := fun w => live_ne lk hq0 w.symm
  have hs1 : lSame S S1 (d 6 1) := by
    rw [← hS1]
    exact (((((((((same_newO hk hr).trans (same_sI (Or.inr nr))).trans (same_newO hk2 hq00)).trans (same_sI (Or.inr nq))).trans (same_sR (Or.inr nq))).trans (same_sR (Or.inr nr))).trans (same_sI (Or.inr nr))).trans (same_sI (Or.inr nr))).trans (same_sI (Or.inr nr))).trans (same_sI (Or.inr nr))
  have hl1 := hl.1.2.1.mono f1 hs1
  refine ⟨?_, hl1.1, hl1.2.1, jkd (Or.inr (Or.inr (Or.inr (Or.inl rfl)))) hl1 (fun i hi => (f1.1 _ (live_of (h.2.2.2.2.2.2 i hi).1 (by omega))).trans (h.2.2.2.2.2.2 i hi).1)⟩
  rw [← hS1]
  simp only [cK_setI, cK_setR, cK_newO, hrq, if_true, if_false]

