/-! A list made for a while: what is added to it changes nothing that was there. -/
def tI (W9 : xWd) (S S1 : cS) (q : Nat) (w : List Nat) : Prop := fr1 S S1 ∧ (∀ L, lCap W9 S L → lSame S S1 L) ∧ (lCap W9 S1 q ∧ cDead S q) ∧ (lCn S1 q = w.length ∧ ∀ (j : Nat) (x : Nat), w[j]? = some x → lNth S1 q j = some x) ∧ (cRf S1 q 1 = wE W9 ∨ cDead S (cRf S1 q 1)) ∧ ∀ x ∈ w, cK S x = 2
set_option maxHeartbeats 400000 in
theorem tI_new {W9 : xWd} {S : cS} {q : Nat} (hq : cDead S q) : tI W9 S (cSetR (cSetI (cNewO S q 0) q 0 0) q 1 (some (wE W9))) q [] := by
  have f : fr1 S (cSetR (cSetI (cNewO S q 0) q 0 0) q 1 (some (wE W9))) := ((fr1_newO hq).sI hq).sR hq
  have e2 : cFi (cSetR (cSetI (cNewO S q 0) q 0 0) q 1 (some (wE W9))) q 2 = 0 := by
    rw [cFi_setR, cFi_setI, if_neg (fun z => by omega), cFi_newO, if_pos rfl]
  have en : lCn (cSetR (cSetI (cNewO S q 0) q 0 0) q 1 (some (wE W9))) q = 0 := by unfold lCn; rw [e2]; rfl
  have er : cFr (cSetR (cSetI (cNewO S q 0) q 0 0) q 1 (some (wE W9))) q 1 = some (wE W9) := by rw [cFr_setR, if_pos ⟨rfl, rfl⟩]
  have ef : cRf (cSetR (cSetI (cNewO S q 0) q 0 0) q 1 (some (wE W9))) q 1 = wE W9 := by unfold cRf; rw [er]; rfl
  refine ⟨f, fun L hL => ?_, ⟨⟨?_, by rw [e2, en]; rfl, by rw [en]; omega, by rw [ef]; exact er, Or.inl ⟨ef, en⟩⟩, hq⟩, ⟨en, fun j x h => by simp at h⟩, Or.inl ef, fun x h => by simp at h⟩
  · have hne : q ≠ L := fun z => live_ne (live_of hL.1 (by omega)) hq z.symm
    exact ((same_newO hL.1 hq).trans (same_sI (Or.inr hne))).trans (same_sR (Or.inr hne))
  · rw [cK_setR, cK_setI, cK_newO, if_pos rfl]
set_option maxHeartbeats 400000 in
theorem tI.kd {W9 : xWd} {S S1 : cS} {q : Nat} {w : List Nat} (h : tI W9 S S1 q w) : lKd S1 q 2 := by
  obtain ⟨f, hs, ⟨hc, hq⟩, ⟨hn, hj⟩, -, hk⟩ := h
  refine ⟨Or.inl rfl, fun i hi b hb => ?_⟩
  rw [hn] at hi
  have h1 := hj i w[i] (List.getElem?_eq_getElem hi)
  have e : some b = some w[i] := hb.symm.trans h1
  cases e
  have h2 := hk _ (List.getElem_mem hi)
  exact (f.1 _ (live_of h2 (by omega))).trans h2
set_option maxHeartbeats 400000 in
theorem tI.m {W9 : xWd} {S S1 : cS} {q : Nat} {w : List Nat} {x : Int32} (h : tI W9 S S1 q w) : tI W9 S (cSetI S1 q 0 x) q w := by
  obtain ⟨f, hs, ⟨hc, hq⟩, ⟨hn, hj⟩, ha, hk⟩ := h
  exact ⟨f.sI2 (by omega), fun L hL => (hs L hL).trans same_m, ⟨by rw [lCap_m]; exact hc, hq⟩, ⟨by rw [lCn_m]; exact hn, hj⟩, ha, hk⟩
set_option maxHeartbeats 400000 in
theorem tI.add {W9 : xWd} {S S1 S2 : cS} {q v : Nat} {w : List Nat} (h : tI W9 S S1 q w) (hv : cK S v = 2) (hw : w.length < 30) (hA : lAdd W9 S1 q v S2) : tI W9 S S2 q (w ++ [v]) := by
  obtain ⟨f, hs, ⟨hc, hq⟩, ⟨hn, hj⟩, ha, hk⟩ := h
  obtain ⟨n1, n2, n3, n4, n5, n6⟩ := lAdd_new hA hc (by rw [hn]; exact hw)
  have f2 := fr1_add hA
  refine ⟨f.trans f2, fun L hL => ?_, ⟨n1, hq⟩, ⟨by rw [n2, hn, List.length_append]; rfl, fun j x hx => ?_⟩, ?_, fun x hx => ?_⟩
  · have s1 := hs L hL
    have c1 := hL.mono f s1
    refine s1.trans (same_add hA c1 (fun z => live_ne (live_of hL.1 (by omega)) hq z) ?_)
    rw [s1.rd.2.1]
    rcases hL.2.2.2.2 with y | y
    · exact Or.inl y.1
    · refine Or.inr ?_
      rcases ha with z | z
      · rw [z]; exact y.1
      · exact live_ne (live_of y.2.1 (by omega)) z
  · rw [List.getElem?_append] at hx
    split at hx
    · rename_i hlt
      rw [n3 j (by rw [hn]; exact hlt)]
      exact hj j x hx
    · rename_i hge
      have hj0 : j - w.length = 0 := by
        have := (List.getElem?_eq_some_iff.mp hx).1
        simp at this
        omega
      rw [hj0] at hx
      simp at hx
      subst hx
      have : j = lCn S1 q := by omega
      rw [this]
      exact n4
  · rcases n5 with z | z
    · rw [z]; exact ha
    · exact Or.inr (f.dead z)
  · rcases List.mem_append.mp hx with y | y
    · exact hk x y
    · simp at y
      rw [y]
      exact hv
set_option maxHeartbeats 400000 in
/-- a list that was there, read behind it -/
theorem tI.rd {W9 : xWd} {S S1 : cS} {q L c : Nat} {w : List Nat} (h : tI W9 S S1 q w) (hL : lCap W9 S L) : cK S1 L = 1 ∧ lOk S1 L ∧ cFi S1 L 2 = nI (lCn S L) ∧ lCn S1 L = lCn S L ∧ ∀ i, lNth S1 L i = lNth S L i := by
  have s := h.2.1 L hL
  have c1 := hL.mono h.1 s
  exact ⟨c1.1, c1.ok, by rw [s.1]; exact hL.2.1, s.rd.1, s.rd.2.2⟩
set_option maxHeartbeats 400000 in
/-- the list itself -/
theorem tI.own {W9 : xWd} {S S1 : cS} {q : Nat} {w : List Nat} (h : tI W9 S S1 q w) : lAll S1 q 2 ∧ lCn S1 q = w.length ∧ ∀ (j : Nat) (x : Nat), w[j]? = some x → lG S1 q j = x := by
  obtain ⟨f, hs, ⟨hc, hq⟩, ⟨hn, hj⟩, ha, hk⟩ := h
  have hg : ∀ (j : Nat) (x : Nat), w[j]? = some x → lG S1 q j = x := fun j x hx => by unfold lG; rw [hj j x hx]; rfl
  refine ⟨⟨hc.ok, fun k hlt => ?_⟩, hn, hg⟩
  rw [hn] at hlt
  have h1 := hj k w[k] (List.getElem?_eq_getElem hlt)
  have h2 := hg k w[k] (List.getElem?_eq_getElem hlt)
  have h3 := hk _ (List.getElem_mem hlt)
  rw [h2]
  exact ⟨h1, (f.1 _ (live_of h3 (by omega))).trans h3⟩
