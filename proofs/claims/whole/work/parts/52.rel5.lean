/-! The relation: other places, the same world. -/
/-- what is used of the kinds up to 10 -/
def us (M : mS) (k i : Nat) : Prop := (k = 0 ∧ i < 7) ∨ (k = 1 ∧ i < 16) ∨ (k = 2 ∧ i < nBg M) ∨ (k = 3 ∧ i < nCo M) ∨ ((k = 4 ∨ k = 5 ∨ k = 8 ∨ k = 10) ∧ i < nBt M) ∨ (k = 6 ∧ i < 5) ∨ (k = 7 ∧ i < 16) ∨ (k = 9 ∧ i < 2)
theorem us0 {M : mS} {i : Nat} (h : i < 7) : us M 0 i := Or.inl ⟨rfl, h⟩
theorem us1 {M : mS} {i : Nat} (h : i < 16) : us M 1 i := Or.inr (Or.inl ⟨rfl, h⟩)
theorem us2 {M : mS} {i : Nat} (h : i < nBg M) : us M 2 i := Or.inr (Or.inr (Or.inl ⟨rfl, h⟩))
theorem us3 {M : mS} {i : Nat} (h : i < nCo M) : us M 3 i := Or.inr (Or.inr (Or.inr (Or.inl ⟨rfl, h⟩)))
theorem us4 {M : mS} {i : Nat} (h : i < nBt M) : us M 4 i := Or.inr (Or.inr (Or.inr (Or.inr (Or.inl ⟨Or.inl rfl, h⟩))))
theorem us5 {M : mS} {i : Nat} (h : i < nBt M) : us M 5 i := Or.inr (Or.inr (Or.inr (Or.inr (Or.inl ⟨Or.inr (Or.inl rfl), h⟩))))
theorem us8 {M : mS} {i : Nat} (h : i < nBt M) : us M 8 i := Or.inr (Or.inr (Or.inr (Or.inr (Or.inl ⟨Or.inr (Or.inr (Or.inl rfl)), h⟩))))
theorem us10 {M : mS} {i : Nat} (h : i < nBt M) : us M 10 i := Or.inr (Or.inr (Or.inr (Or.inr (Or.inl ⟨Or.inr (Or.inr (Or.inr rfl)), h⟩))))
theorem us6 {M : mS} {i : Nat} (h : i < 5) : us M 6 i := Or.inr (Or.inr (Or.inr (Or.inr (Or.inr (Or.inl ⟨rfl, h⟩)))))
theorem us7 {M : mS} {i : Nat} (h : i < 16) : us M 7 i := Or.inr (Or.inr (Or.inr (Or.inr (Or.inr (Or.inr (Or.inl ⟨rfl, h⟩))))))
theorem us9 {M : mS} {i : Nat} (h : i < 2) : us M 9 i := Or.inr (Or.inr (Or.inr (Or.inr (Or.inr (Or.inr (Or.inr ⟨rfl, h⟩))))))
theorem R0_live {W9 : xWd} {d : Nat → Nat → Nat} {S : cS} {M : mS} (h : R0 W9 d S M) {k i : Nat} (hu : us M k i) : ¬ cDead S (d k i) := by
  obtain ⟨h1, h2, h3, h4, h5, h6, h7, h8, h9, h10, h11⟩ := h
  rcases hu with ⟨rfl, hi⟩ | ⟨rfl, hi⟩ | ⟨rfl, hi⟩ | ⟨rfl, hi⟩ | ⟨z, hi⟩ | ⟨rfl, hi⟩ | ⟨rfl, hi⟩ | ⟨rfl, hi⟩
  · exact live_of (h1 i hi).1 (by omega)
  · exact live_of (h2 i hi).1 (by omega)
  · exact live_of (h4 i hi).1 (by omega)
  · exact live_of (h5 i hi).1 (by omega)
  · rcases z with rfl | rfl | rfl | rfl
    · exact live_of (h6 i hi).1 (by omega)
    · exact live_of (h3 i hi).1 (by omega)
    · exact live_of (rLst.isCap h11 (Or.inr (Or.inr ⟨rfl, hi⟩))).1 (by omega)
    · exact live_of (h8 i hi).1 (by omega)
  · exact live_of (rLst.isCap h11 (Or.inl ⟨rfl, hi⟩)).1 (by omega)
  · exact live_of (rLst.isCap h11 (Or.inr (Or.inl ⟨rfl, hi⟩))).1 (by omega)
  · match i, hi with
    | 0, _ => exact live_of h9.1 (by omega)
    | 1, _ => exact live_of h10.1 (by omega)
theorem lst.fn {W9 : xWd} {S : cS} {L n : Nat} {f g : Nat → Nat} (h : lst W9 S L n f) (e : ∀ k, k < n → g k = f k) : lst W9 S L n g := ⟨h.1, h.2.1, fun k hk => by rw [e k hk]; exact h.2.2 k hk⟩

theorem R0_dl {W9 : xWd} {d d2 : Nat → Nat → Nat} {S : cS} {M : mS} (h : R0 W9 d S M) (hi : iAll M) (hu : ∀ k i, us M k i → d2 k i = d k i) (h92 : d2 9 2 = d 9 2) : R0 W9 d2 S M := by
  obtain ⟨h1, h2, h3, h4, h5, h6, h7, h8, h9, h10, h11⟩ := h
  refine ⟨?_, ?_, ?_, ?_, ?_, ?_, ?_, ?_, ?_, ?_, ?_⟩
  · intro s hs
    rw [hu _ _ (us0 hs)]
    obtain ⟨a0, a600, a601, a602, a603, a604, a605, a606, a607, a608, a609, a610, a611, a612⟩ := h1 s hs
    exact ⟨a0, a600, a601, a602, a603, a604, a605, a606, a607, a608, a609, a610, a611, a612⟩
  · intro t ht
    rw [hu _ _ (us1 ht)]
    obtain ⟨a0, a500, a501, a502, a503, a505⟩ := h2 t ht
    exact ⟨a0, a500, a501, a502, a503, by rw [hu _ _ (us7 ht)]; exact a505⟩
  · intro w hw
    rw [hu _ _ (us5 hw)]
    obtain ⟨a0, a500, a501, a502, a503, a504, a505⟩ := h3 w hw
    exact ⟨a0, a500, a501, a502, a503, a504, by rw [hu _ _ (us8 hw)]; exact a505⟩
  · intro g hg
    rw [hu _ _ (us2 hg)]
    obtain ⟨a0, a100, a101, a102, a103, a104, a105⟩ := h4 g hg
    obtain ⟨i1, i2, -⟩ := hi.2.2.2.2.1 g hg
    have er : (if M.2 28 g = -1 then d2 1 (M.2 27 g).toNatClampNeg else d2 5 (M.2 28 g).toNatClampNeg) = (if M.2 28 g = -1 then d 1 (M.2 27 g).toNatClampNeg else d 5 (M.2 28 g).toNatClampNeg) := by
      rcases i1 with ⟨z, t, p, ht, et, -⟩ | ⟨w, p, hw, ew, -⟩
      · rw [if_pos z, if_pos z, et, ix_nI (by omega), hu _ _ (us1 ht)]
      · have := hi.1.1.2
        have z : ¬ M.2 28 g = -1 := by rw [ew]; exact nI_m1 (by omega)
        rw [if_neg z, if_neg z, ew, ix_nI (by omega), hu _ _ (us5 hw)]
    have ed : (if M.2 25 g = -1 then none else some (d2 3 (M.2 25 g).toNatClampNeg)) = (if M.2 25 g = -1 then none else some (d 3 (M.2 25 g).toNatClampNeg)) := by
      rcases i2 with ⟨-, z⟩ | ⟨-, c, hc, ec⟩
      · rw [if_pos z, if_pos z]
      · have := hi.1.2.2.2
        rw [ec, ix_nI (by omega), hu _ _ (us3 hc)]
    exact ⟨a0, a100, a101, by rw [er]; exact a102, a103, by rw [ed]; exact a104, a105⟩
  · intro c hc
    rw [hu _ _ (us3 hc)]
    obtain ⟨a0, a300, a301, a302, a303, a304, a305, a306, a307, a308, a309, a310⟩ := h5 c hc
    exact ⟨a0, a300, a301, a302, a303, a304, a305, a306, a307, a308, a309, a310⟩
  · intro w hw
    rw [hu _ _ (us4 hw)]
    obtain ⟨a0, a200, a201, a202, a203, a204, a205, a206, a207, a208, a209, a210, a211, a213, a214⟩ := h6 w hw
    exact ⟨a0, a200, a201, a202, by rw [hu _ _ (us5 hw)]; exact a203, a204, a205, a206, a207, a208, a209, a210, a211, a213, by rw [hu _ _ (us10 hw)]; exact a214⟩
  · intro w hw v hv
    rw [hu _ _ (us4 hw)]
    exact h7 w hw v hv
  · intro w hw
    rw [hu _ _ (us10 hw)]
    exact h8 w hw
  · obtain ⟨a0, ⟨r0, r1, r2, r3, r4, r5, r6⟩, a1⟩ := h9
    unfold rTop
    rw [hu 9 0 (us9 (by omega)), hu 9 1 (us9 (by omega)), hu 6 0 (us6 (by omega)), hu 6 1 (us6 (by omega)), hu 6 2 (us6 (by omega)), hu 6 3 (us6 (by omega)), hu 6 4 (us6 (by omega)), h92]
    exact ⟨a0, ⟨r0, r1, r2, r3, r4, r5, r6⟩, a1⟩
  · unfold rLoa
    rw [hu 9 1 (us9 (by omega))]
    exact h10
  · obtain ⟨⟨l0, l1, l2, l3, l4⟩, l5, l6, l7⟩ := h11
    have hbg := hi.1.2.1.2
    have hq : ∀ k i, isL M k i → d2 k i = d k i := fun k i z => by
      rcases z with ⟨rfl, z⟩ | ⟨rfl, z⟩ | ⟨rfl, z⟩
      · exact hu _ _ (us6 z)
      · exact hu _ _ (us7 z)
      · exact hu _ _ (us8 z)
    refine ⟨⟨?_, ?_, ?_, ?_, ?_⟩, fun t ht => ?_, fun w hw => ?_, fun k i k2 i2 z1 z2 z3 => ?_⟩
    · rw [hu _ _ (us6 (by omega))]; exact l0.fn (fun k hk => hu _ _ (us0 hk))
    · rw [hu _ _ (us6 (by omega))]; exact l1.fn (fun k hk => hu _ _ (us1 hk))
    · rw [hu _ _ (us6 (by omega))]; exact l2.fn (fun k hk => hu _ _ (us2 hk))
    · rw [hu _ _ (us6 (by omega))]; exact l3.fn (fun k hk => hu _ _ (us3 hk))
    · rw [hu _ _ (us6 (by omega))]; exact l4.fn (fun k hk => hu _ _ (us4 hk))
    · rw [hu _ _ (us7 ht)]
      refine (l5 t ht).fn (fun k hk => ?_)
      obtain ⟨g, hg, eg, -⟩ := (hi.2.2.1 t ht).2.2.2 k hk
      show d2 2 (M.2 19 (5 * t + k)).toNatClampNeg = d 2 (M.2 19 (5 * t + k)).toNatClampNeg
      rw [eg, ix_nI (by omega), hu _ _ (us2 hg)]
    · rw [hu _ _ (us8 hw)]
      refine (l6 w hw).fn (fun k hk => ?_)
      obtain ⟨g, hg, eg, -⟩ := (hi.2.2.2.1 w hw).2.2 k hk
      show d2 2 (M.2 41 (12 * w + k)).toNatClampNeg = d 2 (M.2 41 (12 * w + k)).toNatClampNeg
      rw [eg, ix_nI (by omega), hu _ _ (us2 hg)]
    · rw [hq k i z1, hq k2 i2 z2] at z3
      rw [hq k i z1]
      exact l7 k i k2 i2 z1 z2 z3

/-- what changes only what is not used, and the story, keeps the world -/
theorem R0_keep {W9 : xWd} {d : Nat → Nat → Nat} {S S2 : cS} {M : mS} (h : R0 W9 d S M) (hs : ∀ k i, us M k i → sm S S2 (d k i)) (hl : ∀ k i, isL M k i → lCap W9 S (d k i) → lCap W9 S2 (d k i) ∧ lSame S S2 (d k i)) : R0 W9 d S2 M := by
  obtain ⟨h1, h2, h3, h4, h5, h6, h7, h8, h9, h10, h11⟩ := h
  exact ⟨h1.mono (fun s z => hs _ _ (us0 z)) rfl rfl rfl rfl rfl rfl rfl rfl rfl rfl rfl rfl, h2.mono (fun s z => hs _ _ (us1 z)) rfl, h3.mono (fun s z => hs _ _ (us5 z)) rfl rfl, h4.mono (fun s z => hs _ _ (us2 z)) rfl rfl rfl rfl rfl rfl rfl, h5.mono (fun s z => hs _ _ (us3 z)) rfl rfl rfl rfl rfl rfl rfl rfl rfl rfl rfl rfl rfl, h6.mono (fun s z => hs _ _ (us4 z)) rfl rfl rfl rfl rfl rfl rfl rfl rfl rfl rfl rfl, h7.mono (fun s z => hs _ _ (us4 z)) rfl rfl, h8.mono (fun s z => hs _ _ (us10 z)) rfl rfl, h9.mono (hs _ _ (us9 (by omega))) rfl rfl rfl rfl rfl rfl rfl, h10.mono (hs _ _ (us9 (by omega))) rfl rfl rfl, h11.mono hl rfl rfl rfl rfl rfl rfl rfl⟩
/-- telling keeps what is no story -/
theorem tlR_sm {S : cS} {a N x u : Nat} {v : Int32} {S2 : cS} (h : tlR S a N x u v S2) {b : Nat} (hb : ¬ cDead S b) (na : b ≠ a) (nx : b ≠ x) (nd : b ≠ cRf S x 400) : sm S S2 b ∧ cRr S2 b = cRr S b ∧ cFi S2 b = cFi S b ∧ cFr S2 b = cFr S b := by
  rcases h with ⟨-, rfl⟩ | ⟨-, q, q2, d1, d2, rfl⟩
  · unfold cTl1
    have e : cFi (cSetI (cSetI (cAst S (cRf S x 400) u v) x 401 (nI (u + 1))) a 702 (nI (N + 1))) b = cFi S b := by
      funext g
      rw [cFi_setI, if_neg (fun z => na z.1), cFi_setI, if_neg (fun z => nx z.1), cFi_ast]
    refine ⟨⟨rfl, fun g _ => congrFun e g, fun _ _ => rfl, rfl, ?_⟩, rfl, e, rfl⟩
    funext g
    rw [cRi_setI, cRi_setI, cRi_ast, if_neg (fun z => nd z.1)]
  · have n1 : b ≠ q := live_ne hb d1
    have n2 : b ≠ q2 := live_ne hb ((dead_nO (by omega)).mp d2).2
    unfold cTl2 cPg
    have e1 : cFi (cSetI (cSetI (cAst (cSetR (cSetR (cSetR (cNewI (cNewO S q 4) q2 0 64) q 400 (some q2)) x 402 (some q)) a 701 (some q)) q2 0 v) q 401 (nI (0 + 1))) a 702 (nI (N + 1))) b = cFi S b := by
      funext g
      rw [cFi_setI, if_neg (fun z => na z.1), cFi_setI, if_neg (fun z => n1 z.1), cFi_ast, cFi_setR, cFi_setR, cFi_setR, cFi_newI, cFi_newO, if_neg n1]
    have e2 : cFr (cSetI (cSetI (cAst (cSetR (cSetR (cSetR (cNewI (cNewO S q 4) q2 0 64) q 400 (some q2)) x 402 (some q)) a 701 (some q)) q2 0 v) q 401 (nI (0 + 1))) a 702 (nI (N + 1))) b = cFr S b := by
      funext g
      rw [cFr_setI, cFr_setI, cFr_ast, cFr_setR, if_neg (fun z => na z.1), cFr_setR, if_neg (fun z => nx z.1), cFr_setR, if_neg (fun z => n1 z.1), cFr_newI, cFr_newO, if_neg n1]
    refine ⟨⟨?_, fun g _ => congrFun e1 g, fun g _ => congrFun e2 g, ?_, ?_⟩, rfl, e1, e2⟩
    · rw [cK_setI, cK_setI, cK_ast, cK_setR, cK_setR, cK_setR, cK_newI, if_neg n2, cK_newO, if_neg n1]
    · rw [cLen_setI, cLen_setI, cLen_ast, cLen_setR, cLen_setR, cLen_setR, cLen_newI, if_neg n2, cLen_newO]
    · funext g
      rw [cRi_setI, cRi_setI, cRi_ast, if_neg (fun z => n2 z.1), cRi_setR, cRi_setR, cRi_setR, cRi_newI, if_neg n2, cRi_newO]
/-- telling, under the relation -/
theorem R0_tell {W9 : xWd} {d : Nat → Nat → Nat} {S S2 : cS} {M : mS} {np N : Nat} {v : Int32} (hd : dInj d) (h : R0 W9 d S M) (hi : iAll M) (hp : rPg d S np N) (hN8 : N < 8192) (hT : tlR S (d 9 2) N (d 11 (np - 1)) (pU S d (np - 1)) v S2) :
    ∃ d2 np2, dInj d2 ∧ (∀ k i, us M k i → d2 k i = d k i) ∧ d2 9 2 = d 9 2 ∧ R0 W9 d2 S2 M ∧ rPg d2 S2 np2 (N + 1) ∧ (∀ e f w, lq d2 S2 e f w np2 = if mtc v e f w then v else lq d S e f w np) ∧ pU S2 d2 (np2 - 1) = (if pU S d (np - 1) < 64 then pU S d (np - 1) + 1 else 1) := by
  obtain ⟨d2, np2, g1, g2, g3, g4, g5⟩ := rPg_tell hd hp hT
  have hnp := hp.2.1
  have e4 : cRf S (d 11 (np - 1)) 400 = d 12 (np - 1) := by unfold cRf; rw [(hp.2.2 (np - 1) (by omega)).2.1]; rfl
  have hk10 : ∀ k i, us M k i → k ≤ 10 ∧ ¬ (k = 9 ∧ i = 2) := fun k i z => by
    rcases z with ⟨rfl, _⟩ | ⟨rfl, _⟩ | ⟨rfl, _⟩ | ⟨rfl, _⟩ | ⟨z, _⟩ | ⟨rfl, _⟩ | ⟨rfl, _⟩ | ⟨rfl, _⟩ <;> omega
  have hu : ∀ k i, us M k i → d2 k i = d k i := fun k i z => g2 k i (R0_live h z) (fun y => by have := hk10 k i z; omega)
  have h92 : d2 9 2 = d 9 2 := g2 9 2 (live_of hp.1.1 (by omega)) (fun y => by omega)
  have hsm : ∀ k i, us M k i → sm S S2 (d k i) ∧ cRr S2 (d k i) = cRr S (d k i) ∧ cFi S2 (d k i) = cFi S (d k i) ∧ cFr S2 (d k i) = cFr S (d k i) := fun k i z => by
    have z2 := hk10 k i z
    exact tlR_sm hT (R0_live h z) (fun y => z2.2 (hd _ _ _ _ y)) (fun y => by have := hd _ _ _ _ y; omega) (by rw [e4]; exact fun y => by have := hd _ _ _ _ y; omega)
  refine ⟨d2, np2, g1, hu, h92, R0_dl (R0_keep h (fun k i z => (hsm k i z).1) (fun k i z hc => ?_)) hi hu h92, g3, g4, g5⟩
  have zu : us M k i := by
    rcases z with ⟨rfl, z⟩ | ⟨rfl, z⟩ | ⟨rfl, z⟩
    · exact us6 z
    · exact us7 z
    · exact us8 z
  obtain ⟨a1, a2, a3, a4⟩ := hsm k i zu
  have earr : cRr S2 (cRf S (d k i) 1) = cRr S (cRf S (d k i) 1) ∧ (cK S (cRf S (d k i) 1) = 13 → cK S2 (cRf S (d k i) 1) = 13 ∧ cLen S2 (cRf S (d k i) 1) = cLen S (cRf S (d k i) 1)) := by
    refine ⟨?_, fun y => ?_⟩
    · rcases hT with ⟨-, rfl⟩ | ⟨-, q, q2, _, _, rfl⟩ <;> rfl
    · obtain ⟨v1, -, -, v2, -⟩ := tlR_k (c := 13) hT (by
        exact ⟨hp.1.1, hp.1.2.2.2, hN8, hp.1.2.2.1, (hp.2.2 (np - 1) (by omega)).1, ⟨by rw [e4]; exact (hp.2.2 (np - 1) (by omega)).2.1, by rw [e4]; exact (hp.2.2 (np - 1) (by omega)).2.2.1⟩, by rw [e4]; exact (hp.2.2 (np - 1) (by omega)).2.2.2.1, (hp.2.2 (np - 1) (by omega)).2.2.2.2.1.1, (hp.2.2 (np - 1) (by omega)).2.2.2.2.1.2⟩) y (by omega)
      exact ⟨v1, v2⟩
  have hsame : lSame S S2 (d k i) := ⟨congrFun a3 2, congrFun a4 1, earr.1⟩
  obtain ⟨e1, e2, e3⟩ := hsame.rd
  obtain ⟨c1, c2, c3, c4, c5⟩ := hc
  refine ⟨⟨a1.1.trans c1, by rw [hsame.1, e1]; exact c2, by rw [e1]; exact c3, by rw [hsame.2.1, e2]; exact c4, ?_⟩, hsame⟩
  rw [e1, e2]
  rcases c5 with c5 | ⟨b1, b2, b3, b4, b5⟩
  · exact Or.inl c5
  · obtain ⟨v1, v2⟩ := earr.2 b2
    rw [v1, v2]
    exact Or.inr ⟨b1, rfl, b3, b4, b5⟩

