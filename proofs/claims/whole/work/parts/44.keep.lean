/-! What lists' changes and makings keep. -/
theorem live_K {S S2 : cS} {b : Nat} (h : cK S2 b = cK S b) (hb : ¬ cDead S b) : ¬ cDead S2 b := fun z => hb (by unfold cDead at *; rw [h] at z; exact z)
/-- all but lists' own fields and rows of references is kept for what lives -/
def fr1 (S S2 : cS) : Prop := (∀ b, ¬ cDead S b → cK S2 b = cK S b) ∧ (∀ b g, 2 < g → ¬ cDead S b → cFi S2 b g = cFi S b g) ∧ (∀ b g, 2 < g → ¬ cDead S b → cFr S2 b g = cFr S b g) ∧ (∀ b, ¬ cDead S b → cLen S2 b = cLen S b) ∧ (∀ b, ¬ cDead S b → cRi S2 b = cRi S b)
theorem fr1.rf {S : cS} : fr1 S S := ⟨fun _ _ => rfl, fun _ _ _ _ => rfl, fun _ _ _ _ => rfl, fun _ _ => rfl, fun _ _ => rfl⟩
theorem fr1.trans {S S1 S2 : cS} (h : fr1 S S1) (k : fr1 S1 S2) : fr1 S S2 :=
  ⟨fun b hb => (k.1 b (live_K (h.1 b hb) hb)).trans (h.1 b hb), fun b g hg hb => (k.2.1 b g hg (live_K (h.1 b hb) hb)).trans (h.2.1 b g hg hb), fun b g hg hb => (k.2.2.1 b g hg (live_K (h.1 b hb) hb)).trans (h.2.2.1 b g hg hb), fun b hb => (k.2.2.2.1 b (live_K (h.1 b hb) hb)).trans (h.2.2.2.1 b hb), fun b hb => (k.2.2.2.2 b (live_K (h.1 b hb) hb)).trans (h.2.2.2.2 b hb)⟩
theorem live_ne {S : cS} {b q : Nat} (hb : ¬ cDead S b) (hq : cDead S q) : b ≠ q := fun z => hb (z ▸ hq)
theorem fr1_add {W9 : xWd} {S : cS} {L v : Nat} {S2 : cS} (h : lAdd W9 S L v S2) : fr1 S S2 := by
  refine ⟨lAdd_K h, ?_, ?_, ?_, ?_⟩
  · intro b g hg hb
    rcases h with ⟨h1, h2, rfl⟩ | ⟨q, S1, ⟨h1, h2, k, h3, h4, h5, rfl⟩, rfl⟩
    · rw [cFi_setI, if_neg (fun z => by omega), cFi_astR]
    · rw [cFi_setI, if_neg (fun z => by omega), cFi_astR, cFi_setR, cFi_cpy, cFi_newR]
  · intro b g hg hb
    rcases h with ⟨h1, h2, rfl⟩ | ⟨q, S1, ⟨h1, h2, k, h3, h4, h5, rfl⟩, rfl⟩
    · rw [cFr_setI, cFr_astR]
    · rw [cFr_setI, cFr_astR, cFr_setR, if_neg (fun z => by omega), cFr_cpy, cFr_newR]
  · intro b hb
    rcases h with ⟨h1, h2, rfl⟩ | ⟨q, S1, ⟨h1, h2, k, h3, h4, h5, rfl⟩, rfl⟩
    · rw [cLen_setI, cLen_astR]
    · rw [cLen_setI, cLen_astR, cLen_setR, cLen_cpy, cLen_newR, if_neg (live_ne hb h1)]
  · intro b hb
    rcases h with ⟨h1, h2, rfl⟩ | ⟨q, S1, ⟨h1, h2, k, h3, h4, h5, rfl⟩, rfl⟩
    · rw [cRi_setI, cRi_astR]
    · rw [cRi_setI, cRi_astR, cRi_setR, cRi_cpy, cRi_newR]
theorem fr1_m {S : cS} {L g : Nat} {x : Int32} (hg : g ≤ 2) : fr1 S (cSetI S L g x) := ⟨fun _ _ => rfl, fun b h hh _ => by rw [cFi_setI, if_neg (fun z => by omega)], fun _ _ _ _ => rfl, fun _ _ => rfl, fun _ _ => rfl⟩
theorem fr1_newO {S : cS} {q ci : Nat} (hq : cDead S q) : fr1 S (cNewO S q ci) := ⟨fun b hb => by rw [cK_newO, if_neg (live_ne hb hq)], fun b g _ hb => by rw [cFi_newO, if_neg (live_ne hb hq)], fun b g _ hb => by rw [cFr_newO, if_neg (live_ne hb hq)], fun _ _ => rfl, fun _ _ => rfl⟩
theorem fr1_newI {S : cS} {q z n : Nat} (hq : cDead S q) : fr1 S (cNewI S q z n) := ⟨fun b hb => by rw [cK_newI, if_neg (live_ne hb hq)], fun _ _ _ _ => rfl, fun _ _ _ _ => rfl, fun b hb => by rw [cLen_newI, if_neg (live_ne hb hq)], fun b hb => by funext i; rw [cRi_newI, if_neg (live_ne hb hq)]⟩
theorem fr1.sI {S S1 : cS} {q g : Nat} {x : Int32} (h : fr1 S S1) (hq : cDead S q) : fr1 S (cSetI S1 q g x) := ⟨h.1, fun b k hk hb => by rw [cFi_setI, if_neg (fun z => live_ne hb hq z.1)]; exact h.2.1 b k hk hb, h.2.2.1, h.2.2.2.1, h.2.2.2.2⟩
theorem fr1.sR {S S1 : cS} {q g : Nat} {r : Option Nat} (h : fr1 S S1) (hq : cDead S q) : fr1 S (cSetR S1 q g r) := ⟨h.1, h.2.1, fun b k hk hb => by rw [cFr_setR, if_neg (fun z => live_ne hb hq z.1)]; exact h.2.2.1 b k hk hb, h.2.2.2.1, h.2.2.2.2⟩
theorem fr1.sI2 {S S1 : cS} {q g : Nat} {x : Int32} (h : fr1 S S1) (hg : g ≤ 2) : fr1 S (cSetI S1 q g x) := h.trans (fr1_m hg)
theorem fr1.dead {S S1 : cS} {q : Nat} (h : fr1 S S1) (hq : cDead S1 q) : cDead S q := Classical.byContradiction (fun z => live_K (h.1 q z) z hq)
theorem fr1_rem {S : cS} {L p : Nat} : fr1 S (lRem S L p) := ⟨fun _ _ => rfl, fun b g hg _ => by unfold lRem; rw [cFi_astR, cFi_setI, if_neg (fun z => by omega), cFi_cpy, cFi_setI, if_neg (fun z => by omega)], fun _ _ _ _ => rfl, fun _ _ => rfl, fun _ _ => rfl⟩
/-- a list is as it was -/
def lSame (S S2 : cS) (L : Nat) : Prop := cFi S2 L 2 = cFi S L 2 ∧ cFr S2 L 1 = cFr S L 1 ∧ cRr S2 (cRf S L 1) = cRr S (cRf S L 1)
theorem lSame.rf {S : cS} {L : Nat} : lSame S S L := ⟨rfl, rfl, rfl⟩
theorem lSame.trans {S S1 S2 : cS} {L : Nat} (h : lSame S S1 L) (k : lSame S1 S2 L) : lSame S S2 L := by
  have e : cRf S1 L 1 = cRf S L 1 := by unfold cRf; rw [h.2.1]
  exact ⟨k.1.trans h.1, k.2.1.trans h.2.1, by rw [← h.2.2, ← e]; exact k.2.2⟩
theorem lSame.rd {S S2 : cS} {L : Nat} (h : lSame S S2 L) : lCn S2 L = lCn S L ∧ cRf S2 L 1 = cRf S L 1 ∧ ∀ i, lNth S2 L i = lNth S L i := by
  have e : cRf S2 L 1 = cRf S L 1 := by unfold cRf; rw [h.2.1]
  refine ⟨by unfold lCn; rw [h.1], e, fun i => ?_⟩
  unfold lNth
  rw [e, h.2.2]
theorem lCap.mono {W9 : xWd} {S S2 : cS} {L : Nat} (h : lCap W9 S L) (k : fr1 S S2) (s : lSame S S2 L) : lCap W9 S2 L := by
  obtain ⟨h1, h2, h3, h4, h5⟩ := h
  obtain ⟨e1, e2, e3⟩ := s.rd
  refine ⟨(k.1 L (live_of h1 (by omega))).trans h1, by rw [s.1, e1]; exact h2, by rw [e1]; exact h3, by rw [s.2.1, e2]; exact h4, ?_⟩
  rw [e1, e2]
  rcases h5 with h5 | ⟨a1, a2, a3, a4, a5⟩
  · exact Or.inl h5
  · have hl := live_of a2 (by omega)
    rw [k.1 _ hl, k.2.2.2.1 _ hl]
    exact Or.inr ⟨a1, a2, a3, a4, a5⟩
theorem lKd.mono {S S2 : cS} {L c : Nat} (h : lKd S L c) (k : fr1 S S2) (s : lSame S S2 L) : lKd S2 L c := by
  obtain ⟨e1, e2, e3⟩ := s.rd
  refine ⟨h.1, fun i hi b hb => ?_⟩
  rw [e1] at hi
  rw [e2, s.2.2] at hb
  have h2 := h.2 i hi b hb
  refine (k.1 b (live_of h2 ?_)).trans h2
  rcases h.1 with z | z | z | z | z <;> omega
theorem lAll_kd {S : cS} {L c : Nat} (h : lAll S L c) (hc : cEl c) : lKd S L c := ⟨hc, fun i hi b hb => by
  obtain ⟨g1, g2⟩ := h.2 i hi
  have e : some b = some (lG S L i) := hb.symm.trans g1
  cases e
  exact g2⟩
theorem same_newO {S : cS} {L q ci : Nat} (h : cK S L = 1) (hq : cDead S q) : lSame S (cNewO S q ci) L := by
  have hn := live_ne (live_of h (by omega)) hq
  exact ⟨by rw [cFi_newO, if_neg hn], by rw [cFr_newO, if_neg hn], rfl⟩
theorem same_sI {S : cS} {L q g : Nat} {x : Int32} (h : 2 < g ∨ q ≠ L) : lSame S (cSetI S q g x) L := ⟨by rw [cFi_setI, if_neg (fun z => h.elim (fun y => by omega) (fun y => y z.1.symm))], rfl, rfl⟩
theorem same_m {S : cS} {L q : Nat} {x : Int32} : lSame S (cSetI S q 0 x) L := ⟨by rw [cFi_setI, if_neg (fun z => by omega)], rfl, rfl⟩
theorem same_sR {S : cS} {L q g : Nat} {r : Option Nat} (h : 2 < g ∨ q ≠ L) : lSame S (cSetR S q g r) L := ⟨rfl, by rw [cFr_setR, if_neg (fun z => h.elim (fun y => by omega) (fun y => y z.1.symm))], rfl⟩
theorem same_add {W9 : xWd} {S : cS} {L L2 v : Nat} {S2 : cS} (h : lAdd W9 S L v S2) (hc : lCap W9 S L2) (hne : L2 ≠ L) (ha : cRf S L2 1 = wE W9 ∨ cRf S L2 1 ≠ cRf S L 1) : lSame S S2 L2 := by
  rcases h with ⟨h1, h2, rfl⟩ | ⟨q, S1, ⟨h1, h2, k, h3, h4, h5, rfl⟩, rfl⟩
  · have hx : cRf S L2 1 ≠ cRf S L 1 := by
      rcases ha with z | z
      · rw [z]; exact fun y => h1 y.symm
      · exact z
    refine ⟨by rw [cFi_setI, if_neg (fun z => hne z.1)]; rfl, rfl, ?_⟩
    funext i
    rw [cRr_setI, cRr_astR, if_neg (fun z => hx z.1)]
  · have hq : cRf S L2 1 ≠ q := by
      rcases hc.2.2.2.2 with z | z
      · rw [z.1]; exact fun y => h2 y.symm
      · exact live_ne (live_of z.2.1 (by omega)) h1
    refine ⟨by rw [cFi_setI, if_neg (fun z => hne z.1)]; rfl, by rw [cFr_setI, cFr_astR, cFr_setR, if_neg (fun z => hne z.1)]; rfl, ?_⟩
    funext i
    rw [cRr_setI, cRr_astR, if_neg (fun z => hq z.1), cRr_setR, cRr_cpy, if_neg hq, cRr_newR, if_neg hq]
theorem lAdd_new {W9 : xWd} {S : cS} {L v : Nat} {S2 : cS} (h : lAdd W9 S L v S2) (hc : lCap W9 S L) (h30 : lCn S L < 30) : lCap W9 S2 L ∧ lCn S2 L = lCn S L + 1 ∧ (∀ i, i < lCn S L → lNth S2 L i = lNth S L i) ∧ lNth S2 L (lCn S L) = some v ∧ (cRf S2 L 1 = cRf S L 1 ∨ cDead S (cRf S2 L 1)) ∧ cRf S2 L 1 ≠ wE W9 := by
  obtain ⟨k1, k2, k3, k4, k5⟩ := hc
  have hL := live_of k1 (by omega)
  have hk : cK S2 L = 1 := (lAdd_K h L hL).trans k1
  have hs : cFi S2 L 2 = nI (lCn S L + 1) := by
    rcases h with ⟨h1, h2, rfl⟩ | ⟨q, S1, h1, rfl⟩ <;> rw [cFi_setI, if_pos ⟨rfl, rfl⟩]
  have hn : lCn S2 L = lCn S L + 1 := by
    show (cFi S2 L 2).toNatClampNeg = _
    rw [hs, nI_clamp (by omega)]
  rcases h with ⟨h1, h2, rfl⟩ | ⟨q, S1, ⟨h1, h2, k, h3, h4, h5, rfl⟩, rfl⟩
  · obtain ⟨a1, a2, a3, a4, a5⟩ := k5.resolve_left (fun z => h1 z.1)
    have ef : cRf (cSetI (cAstR S (cRf S L 1) (lCn S L) (some v)) L 2 (nI (lCn S L + 1))) L 1 = cRf S L 1 := rfl
    refine ⟨⟨hk, by rw [hn]; exact hs, by omega, by rw [ef]; exact k4, Or.inr ⟨by rw [ef]; exact h1, by rw [ef]; exact a2, by rw [ef, hn]; exact h2, by rw [ef]; exact a4, by rw [ef]; exact a5⟩⟩, hn, fun i hi => ?_, ?_, Or.inl ef, by rw [ef]; exact h1⟩
    · unfold lNth
      rw [ef, cRr_setI, cRr_astR, if_neg (fun z => by omega)]
    · unfold lNth
      rw [ef, cRr_setI, cRr_astR, if_pos ⟨rfl, rfl⟩]
  · have ef : cRf (cSetI (cAstR (cSetR (cCpy (cNewR S q k) (cRf S L 1) q 0 0 (lCn S L)) L 1 (some q)) q (lCn S L) (some v)) L 2 (nI (lCn S L + 1))) L 1 = q := by
      unfold cRf
      rw [cFr_setI, cFr_astR, cFr_setR, if_pos ⟨rfl, rfl⟩]
      rfl
    have eF : cFr (cSetI (cAstR (cSetR (cCpy (cNewR S q k) (cRf S L 1) q 0 0 (lCn S L)) L 1 (some q)) q (lCn S L) (some v)) L 2 (nI (lCn S L + 1))) L 1 = some q := by
      rw [cFr_setI, cFr_astR, cFr_setR, if_pos ⟨rfl, rfl⟩]
    have eK : cK (cSetI (cAstR (cSetR (cCpy (cNewR S q k) (cRf S L 1) q 0 0 (lCn S L)) L 1 (some q)) q (lCn S L) (some v)) L 2 (nI (lCn S L + 1))) q = 13 := by
      rw [cK_setI, cK_astR, cK_setR, cK_cpy, cK_newR, if_pos rfl]
    have eL : cLen (cSetI (cAstR (cSetR (cCpy (cNewR S q k) (cRf S L 1) q 0 0 (lCn S L)) L 1 (some q)) q (lCn S L) (some v)) L 2 (nI (lCn S L + 1))) q = k := by
      rw [cLen_setI, cLen_astR, cLen_setR, cLen_cpy, cLen_newR, if_pos rfl]
    have hq : lCn S L ≠ 0 → cRf S L 1 ≠ q := fun z => by
      rcases k5 with y | y
      · exact absurd y.2 z
      · exact live_ne (live_of y.2.1 (by omega)) h1
    refine ⟨⟨hk, by rw [hn]; exact hs, by omega, by rw [ef]; exact eF, Or.inr ⟨by rw [ef]; exact h2, by rw [ef]; exact eK, by rw [ef, hn, eL]; omega, by rw [ef, eL]; omega, by rw [ef, eL]; omega⟩⟩, hn, fun i hi => ?_, ?_, Or.inr (by rw [ef]; exact h1), by rw [ef]; exact h2⟩
    · unfold lNth
      rw [ef, cRr_setI, cRr_astR, if_neg (fun z => by omega), cRr_setR, cRr_cpy, if_pos rfl, if_pos ⟨by omega, by omega⟩, cRr_newR, if_neg (hq (by omega))]
      congr 1
      omega
    · unfold lNth
      rw [ef, cRr_setI, cRr_astR, if_pos ⟨rfl, rfl⟩]
theorem stL.mono {S S2 : cS} {a N x u : Nat} (h : stL S a N x u) (k : fr1 S S2) : stL S2 a N x u := by
  obtain ⟨h0, h1, h2, h3, h4, ⟨h5, h6⟩, h7, h8, h9⟩ := h
  have l1 := live_of h0 (by omega)
  have l2 := live_of h4 (by omega)
  have l3 := live_of h6 (by omega)
  have e : cRf S2 x 400 = cRf S x 400 := by unfold cRf; rw [k.2.2.1 x 400 (by omega) l2]
  exact ⟨(k.1 a l1).trans h0, (k.2.1 a 702 (by omega) l1).trans h1, h2, (k.2.2.1 a 701 (by omega) l1).trans h3, (k.1 x l2).trans h4, ⟨by rw [e, k.2.2.1 x 400 (by omega) l2]; exact h5, by rw [e, k.1 _ l3]; exact h6⟩, by rw [e, k.2.2.2.1 _ l3]; exact h7, (k.2.1 x 401 (by omega) l2).trans h8, h9⟩
