/-! The class's answers are the reference's: tiers, contracts' goals, fuel, width, to clean. -/

theorem Q_bank {W9 : xWd} {B a : Nat} {S : cS} {M : mS} {p : Int32} {t : Int32} {y : Int32} {K : xRes → cS → Prop} (h : RR W9 B a S M) (hk : ∀ r S2, ans [eB, eA, eS] W9 B a (oBank M p t y) r S2 → K r S2) : (spX7_bank W9).2 [.ref a, .int p, .int t, .int y] S K := by
  have h0 := RR_set0 (z := 0) h
  have h00 := h0
  obtain ⟨d, np, N, h0d⟩ := h00
  have h0e := h0d
  obtain ⟨hd, rfl, hi, hR, hp, hl, hN, hB⟩ := h0e
  have g0 := hR.2.2.2.2.2.2.2.2.1.1
  obtain ⟨g7, g8, g9, g10, g11, g12, g13⟩ := hR.2.2.2.2.2.2.2.2.1.2.2
  have e29 : M.1 29 = nI (nBt M) := hi.1.1.1
  have e22 : M.1 22 = nI (nBg M) := hi.1.2.1.1
  have e46 : M.1 46 = nI (nCo M) := hi.1.2.2.1
  have b29 : nBt M ≤ 6 := hi.1.1.2
  have b22 : nBg M ≤ 24 := hi.1.2.1.2
  have b46 : nCo M ≤ 12 := hi.1.2.2.2
  have n29 : nBt (mSet M 0 0) = nBt M := rfl
  have n22 : nBg (mSet M 0 0) = nBg M := rfl
  have n46 : nCo (mSet M 0 0) = nCo M := rfl
  obtain ⟨f1, f2, f3, f4, f5, f6⟩ := R0_tiers hR
  have f5 : cFi S (d 6 1) 2 = nI 16 := f5
  rw [spwX7_bank, f2, f5]
  have h505 : ∀ j, j < lCn S (d 6 1) → cIn S (lG S (d 6 1) j) 505 1 := fun j hj => by
    rw [f4] at hj
    rw [f6 j hj]
    exact (R0_tier hR hi hj).2.2.2.2.2.1
  have eP : ((0 ≤ p ∧ p < 8) ∧ 0 ≤ t ∧ t < 2) = ((0 ≤ p ∧ p ≤ 7) ∧ 0 ≤ t ∧ t ≤ 1) := by rw [idx7]; congr 1; exact (le_m1 (k := t) (n := 2) (by omega)).symm
  refine ⟨g0, ⟨f1, f3⟩, rfl, h505, fun q => hk _ _ (ans_e h (z := 1) ?_ (by decide) rfl), fun v => ?_⟩
  · unfold oBank
    rw [if_pos (by rw [← eP]; exact q)]
  · have y0 := v
    rw [eP] at y0
    obtain ⟨v1, v2⟩ := v
    rw [show (8 : Int32) = nI 8 from rfl, idx (by omega)] at v1
    rw [show (2 : Int32) = nI 2 from rfl, idx (by omega)] at v2
    obtain ⟨a, ha, rfl⟩ := v1
    obtain ⟨b, hb, rfl⟩ := v2
    have es : nI a * 2 + nI b = nI (2 * a + b) := by rw [Int32.mul_comm, m2_nI, add_nI]
    have es2 : 2 * nI a + nI b = nI (2 * a + b) := by rw [m2_nI, add_nI]
    obtain ⟨s, hs⟩ : ∃ s, 2 * a + b = s := ⟨_, rfl⟩
    have hs16 : s < 16 := by omega
    obtain ⟨-, t2, t3, -⟩ := R0_tier hR hi hs16
    have e503 := (hR.2.1 s hs16).2.2.2.2.1
    have e503 : cFi S (d 1 s) 503 = M.2 17 s := e503
    have i18 := (hi.2.2.1 s hs16).1
    have i18 : M.2 18 s = nI (nT M s) := i18
    have esz : cFi S (cRf S (d 1 s) 505) 2 = M.2 18 s := by
      have := (rLst.isCap hR.2.2.2.2.2.2.2.2.2.2 (Or.inr (Or.inl ⟨rfl, hs16⟩)))
      show cFi S (rL S (d 1 s)) 2 = _
      rw [t2, this.2.1, ← t2]
      show nI (rN S (d 1 s)) = _
      rw [t3]
      exact i18.symm
    rw [es, hs, ix_nI (show s < 1000 by omega), f6 s hs16, esz, e503]
    have ho' : oBank M (nI a) (nI b) y = if ¬ (0 ≤ y ∧ y ≤ 5) then (0, mSet M 0 2) else if y < M.2 18 s then (0, mSet M 0 3) else (M.2 17 s, mAst (mSet M 0 0) 17 s y) := by
      unfold oBank
      rw [if_neg (not_not_intro y0), es2, hs, ix_nI (show s < 1000 by omega)]
    refine ⟨fun q => hk _ _ (ans_e h (z := 2) ?_ (by decide) rfl), fun y2 => ⟨fun q => hk _ _ (ans_e h (z := 3) ?_ (by decide) rfl), fun q => ?_⟩⟩
    · rw [ho', if_pos q]
    · rw [ho', if_neg (not_not_intro y2), if_pos (Int32.not_le.mp q)]
    · rw [if_neg (not_not_intro y2), if_neg (Int32.not_lt.mpr q)] at ho'
      generalize hM2 : mAst (mSet M 0 0) 17 s y = M2
      have m : ∀ k, k ≠ 17 → M2.2 k = (mSet M 0 0).2 k := by
        intro k a0
        rw [← hM2]
        first | rfl | (simp only [mAst_2]; funext n; repeat rw [if_neg (fun z => by omega)]) | (funext n; simp only [mAst_2, mSet_2]; repeat rw [if_neg (fun z => by omega)])
      have c : ∀ k, M2.1 k = (mSet M 0 0).1 k := by
        intro k 
        rw [← hM2]
        first | rfl | (simp only [mAst_1, mSet_1]; repeat rw [if_neg (by omega)]) | (repeat rw [mSet_ne (by omega)]; rfl) | (repeat rw [mSet_ne (by omega)])
      generalize hS2 : cSetI S (d 1 s) 503 y = S2
      have hch : chg S S2 (fun b => b = d 1 s) := by
        rw [← hS2]
        exact (chg.sI (X := (fun b => b = d 1 s)) (chg.rf (X := (fun b => b = d 1 s))) rfl)
      have hX : ∀ (k i : Nat), ¬ (k = 1 ∧ i = s) → ¬ (fun b => b = d 1 s) (d k i) := fun k i z y => z (hd _ _ _ _ y)
      have hL : ∀ k i, isL (mSet M 0 0) k i → ¬ (fun b => b = d 1 s) (d k i) := fun k i z => hX k i (by rcases z with ⟨rfl, _⟩ | ⟨rfl, _⟩ | ⟨rfl, _⟩ <;> omega)
      have hR2 : R0 W9 d S2 M2 := by
        refine ⟨hR.1.mono (fun z _ => hch.sm (hX 0 z (by omega))) (m 5 (by omega)) (m 6 (by omega)) (m 7 (by omega)) (m 8 (by omega)) (m 9 (by omega)) (m 10 (by omega)) (m 11 (by omega)) (m 12 (by omega)) (m 13 (by omega)) (m 14 (by omega)) (m 15 (by omega)) (m 16 (by omega)) , ?_, hR.2.2.1.mono (fun z _ => hch.sm (hX 5 z (by omega))) (m 40 (by omega)) (c 29), hR.2.2.2.1.mono (fun z _ => hch.sm (hX 2 z (by omega))) (m 23 (by omega)) (m 24 (by omega)) (m 25 (by omega)) (m 26 (by omega)) (m 27 (by omega)) (m 28 (by omega)) (c 22), hR.2.2.2.2.1.mono (fun z _ => hch.sm (hX 3 z (by omega))) (m 47 (by omega)) (m 48 (by omega)) (m 49 (by omega)) (m 50 (by omega)) (m 51 (by omega)) (m 52 (by omega)) (m 53 (by omega)) (m 54 (by omega)) (m 55 (by omega)) (m 24 (by omega)) (m 25 (by omega)) (c 46) (c 22), hR.2.2.2.2.2.1.mono (fun z _ => hch.sm (hX 4 z (by omega))) (m 30 (by omega)) (m 31 (by omega)) (m 32 (by omega)) (m 33 (by omega)) (m 34 (by omega)) (m 35 (by omega)) (m 36 (by omega)) (m 37 (by omega)) (m 38 (by omega)) (m 39 (by omega)) (m 43 (by omega)) (c 29), hR.2.2.2.2.2.2.1.mono (fun z _ => hch.sm (hX 4 z (by omega))) (m 45 (by omega)) (c 29), hR.2.2.2.2.2.2.2.1.mono (fun z _ => hch.sm (hX 10 z (by omega))) (m 44 (by omega)) (c 29), hR.2.2.2.2.2.2.2.2.1.mono (hch.sm (hX 9 0 (by omega)))  (c 1) (c 2) (c 3) (c 4) (c 56) (c 57) (c 58), hR.2.2.2.2.2.2.2.2.2.1.mono (hch.sm (hX 9 1 (by omega))) (m 20 (by omega)) (m 21 (by omega)) (c 1), hR.2.2.2.2.2.2.2.2.2.2.mono (fun k i z hc => hch.lst (hL k i z) hc) (m 18 (by omega)) (m 19 (by omega)) (m 41 (by omega)) (m 42 (by omega)) (c 22) (c 29) (c 46)⟩
        · intro x hx
          obtain ⟨h0, h500, h501, h502, h503, h505⟩ := hR.2.1 x hx
          have ed : (d 1 x = d 1 s) = (x = s) := propext ⟨fun y => (hd _ _ _ _ y).2, fun y => by rw [y]⟩
          refine ⟨(hch.2.2.1 _).trans h0, ?_⟩
          rw [← hS2, ← hM2]
          by_cases q : x = s
          · subst q
            simp only [cFi_setI, cFr_setI, cFi_setR, cFr_setR, cFi_ast, cFr_ast, cRi_ast, cRi_setI, cRi_setR, mAst_2, mSet_1, eq_self, Nat.reduceEqDiff, and_false, false_and, and_true, true_and, and_self, if_true, if_false, not_true_eq_false, not_false_eq_true, false_implies, true_implies, implies_true, ed]
            exact ⟨h500, h501, h502, h505⟩
          · simp only [cFi_setI, cFr_setI, cFi_setR, cFr_setR, cFi_ast, cFr_ast, cRi_ast, cRi_setI, cRi_setR, mAst_2, mSet_1, eq_self, Nat.reduceEqDiff, and_false, false_and, and_true, true_and, and_self, if_true, if_false, not_true_eq_false, not_false_eq_true, false_implies, true_implies, implies_true, ed, q]
            exact ⟨h500, h501, h502, h503, h505⟩
      have hi2 : iAll M2 := by
        refine ⟨hi.1.mono  (c 29) (c 22) (c 46), hi.2.1.mono (m 9 (by omega)) (m 7 (by omega)) (m 5 (by omega)) (m 15 (by omega)) , ?_, hi.2.2.2.1.mono (m 42 (by omega)) (m 40 (by omega)) (m 41 (by omega)) (m 28 (by omega)) (c 29) (c 22), hi.2.2.2.2.1.mono (m 28 (by omega)) (m 27 (by omega)) (m 18 (by omega)) (m 19 (by omega)) (m 42 (by omega)) (m 41 (by omega)) (m 24 (by omega)) (m 25 (by omega)) (m 23 (by omega)) (c 22) (c 29) (c 46), hi.2.2.2.2.2.1.mono (m 47 (by omega)) (m 48 (by omega)) (m 49 (by omega)) (m 51 (by omega)) (c 46), hi.2.2.2.2.2.2.1.mono (m 37 (by omega)) (m 35 (by omega)) (m 34 (by omega)) (m 33 (by omega)) (m 36 (by omega)) (c 29), hi.2.2.2.2.2.2.2.1.mono (m 45 (by omega)) (c 29), hi.2.2.2.2.2.2.2.2.1.mono (m 32 (by omega)) (m 39 (by omega)) (m 42 (by omega)) (m 43 (by omega)) (m 44 (by omega)) (m 53 (by omega)) (m 54 (by omega)) (m 55 (by omega)) (m 35 (by omega)) (c 29) (c 46), hi.2.2.2.2.2.2.2.2.2.mono (m 20 (by omega)) (c 1) (c 4)⟩
        · intro x2 hx2
          obtain ⟨i1, i2, i3, i4⟩ := hi.2.2.1 x2 hx2
          have n22b : nBg M2 = nBg (mSet M 0 0) := by unfold nBg; rw [c 22]
          have eT : nT M2 x2 = nT (mSet M 0 0) x2 := by unfold nT; rw [m 18 (by omega)]
          rw [m 18 (by omega), m 19 (by omega), m 28 (by omega), m 27 (by omega), eT, n22b]
          rw [← hM2, mAst_eq]
          by_cases w : x2 = s
          · subst w
            rw [if_pos rfl]
            exact ⟨i1, y2, q, i4⟩
          · rw [if_neg w]
            exact ⟨i1, i2, i3, i4⟩
      have hE : RR W9 B (d 9 0) S2 M2 := by
        have hw : ways M2 (nBt (mSet M 0 0)) = ways (mSet M 0 0) (nBt (mSet M 0 0)) := ways_same _ (fun v _ => way_of (by rw [m 34 (by omega)]) (by rw [m 37 (by omega)]) (by rw [m 33 (by omega)]) (by rw [m 35 (by omega)]))
        exact ⟨d, np, N, (RRd_step h0d hR2 hi2 hw hch (hX 9 2 (by omega)) (fun i => hX 11 i (by omega)) (fun i => hX 12 i (by omega)) (c 22 ) (c 29 ) (m 27 (by omega)) (m 28 (by omega)) (m 33 (by omega)) (m 34 (by omega))).1⟩
      have hE0 : M2.1 0 = 0 := by rw [← hM2]; first | rfl | simp [mAst_1, mSet_1]
      exact hk _ _ (ans_1 hE (by rw [ho', hM2]) hE0 rfl)

theorem Q_divert {W9 : xWd} {B a : Nat} {S : cS} {M : mS} {k : Int32} {y : Int32} {K : xRes → cS → Prop} (h : RR W9 B a S M) (hk : ∀ r S2, ans [eB, eA] W9 B a (oDivert M k y) r S2 → K r S2) : (spX7_divert W9).2 [.ref a, .int k, .int y] S K := by
  have h0 := RR_set0 (z := 0) h
  have h00 := h0
  obtain ⟨d, np, N, h0d⟩ := h00
  have h0e := h0d
  obtain ⟨hd, rfl, hi, hR, hp, hl, hN, hB⟩ := h0e
  have g0 := hR.2.2.2.2.2.2.2.2.1.1
  obtain ⟨g7, g8, g9, g10, g11, g12, g13⟩ := hR.2.2.2.2.2.2.2.2.1.2.2
  have e29 : M.1 29 = nI (nBt M) := hi.1.1.1
  have e22 : M.1 22 = nI (nBg M) := hi.1.2.1.1
  have e46 : M.1 46 = nI (nCo M) := hi.1.2.2.1
  have b29 : nBt M ≤ 6 := hi.1.1.2
  have b22 : nBg M ≤ 24 := hi.1.2.1.2
  have b46 : nCo M ≤ 12 := hi.1.2.2.2
  have n29 : nBt (mSet M 0 0) = nBt M := rfl
  have n22 : nBg (mSet M 0 0) = nBg M := rfl
  have n46 : nCo (mSet M 0 0) = nCo M := rfl
  obtain ⟨f1, f2, f3, f4, f5, f6⟩ := R0_cons hR
  rw [n46] at f4 f5 f6
  rw [spwX7_divert, f2, f5]
  refine ⟨g0, ⟨f1, f3⟩, fun q => hk _ _ (ans_e h (z := 1) ?_ (by decide) rfl), fun v => ⟨fun q => hk _ _ (ans_e h (z := 1) ?_ (by decide) rfl), fun v2 => ?_⟩⟩
  · unfold oDivert
    rw [if_pos (fun z => q (by rw [← le_m1 (by omega), ← e46]; exact z.1))]
  · unfold oDivert
    rw [if_pos (fun z => q (by have := z.2; rw [idx7] at this; exact this))]
  · have y0 : (0 ≤ k ∧ k ≤ M.1 46 - 1) ∧ 0 ≤ y ∧ y ≤ 7 := ⟨by rw [e46, le_m1 (by omega)]; exact v, by rw [idx7]; exact v2⟩
    rw [idx (by omega)] at v
    obtain ⟨s, hs, rfl⟩ := v
    have hC := hR.2.2.2.2.1 s hs
    have e302 : cFi S (d 3 s) 302 = M.2 48 s := hC.2.2.2.1
    have e303 : cFi S (d 3 s) 303 = M.2 49 s := hC.2.2.2.2.1
    have e310 : cFi S (d 3 s) 310 = M.2 55 s := hC.2.2.2.2.2.2.2.2.2.2.2
    rw [ix_nI (show s < 1000 by omega), f6 s hs, e302, e303, e310]
    have ho' : oDivert M (nI s) y = if M.2 48 s = y ∨ M.2 49 s = y then (0, mSet M 0 2) else (M.2 49 s, mAst (mAst (mSet M 0 0) 49 s y) 55 s (M.2 55 s + 1)) := by
      unfold oDivert
      rw [if_neg (not_not_intro y0), ix_nI (show s < 1000 by omega)]
    have eq1 : (M.2 48 s = y ∨ M.2 49 s = y) ↔ ¬ (¬ y = M.2 48 s ∧ ¬ y = M.2 49 s) := by
      constructor
      · rintro (z | z) w
        · exact w.1 z.symm
        · exact w.2 z.symm
      · intro w
        by_cases z : M.2 48 s = y
        · exact Or.inl z
        · by_cases z2 : M.2 49 s = y
          · exact Or.inr z2
          · exact absurd ⟨fun a => z a.symm, fun a => z2 a.symm⟩ w
    refine ⟨fun q => hk _ _ (ans_e h (z := 2) ?_ (by decide) rfl), fun q => ?_⟩
    · rw [ho', if_pos (eq1.mpr q)]
    · rw [if_neg (fun z => (eq1.mp z) q)] at ho'
      generalize hM2 : mAst (mAst (mSet M 0 0) 49 s y) 55 s (M.2 55 s + 1) = M2
      have m : ∀ k, k ≠ 49 → k ≠ 55 → M2.2 k = (mSet M 0 0).2 k := by
        intro k a0 a1
        rw [← hM2]
        first | rfl | (simp only [mAst_2]; funext n; repeat rw [if_neg (fun z => by omega)]) | (funext n; simp only [mAst_2, mSet_2]; repeat rw [if_neg (fun z => by omega)])
      have c : ∀ k, M2.1 k = (mSet M 0 0).1 k := by
        intro k 
        rw [← hM2]
        first | rfl | (simp only [mAst_1, mSet_1]; repeat rw [if_neg (by omega)]) | (repeat rw [mSet_ne (by omega)]; rfl) | (repeat rw [mSet_ne (by omega)])
      generalize hS2 : cSetI (cSetI S (d 3 s) 303 y) (d 3 s) 310 (M.2 55 s + 1) = S2
      have hch : chg S S2 (fun b => b = d 3 s) := by
        rw [← hS2]
        exact (chg.sI (X := (fun b => b = d 3 s)) (chg.sI (X := (fun b => b = d 3 s)) (chg.rf (X := (fun b => b = d 3 s))) rfl) rfl)
      have hX : ∀ (k i : Nat), ¬ (k = 3 ∧ i = s) → ¬ (fun b => b = d 3 s) (d k i) := fun k i z y => z (hd _ _ _ _ y)
      have hL : ∀ k i, isL (mSet M 0 0) k i → ¬ (fun b => b = d 3 s) (d k i) := fun k i z => hX k i (by rcases z with ⟨rfl, _⟩ | ⟨rfl, _⟩ | ⟨rfl, _⟩ <;> omega)
      have hR2 : R0 W9 d S2 M2 := by
        refine ⟨hR.1.mono (fun z _ => hch.sm (hX 0 z (by omega))) (m 5 (by omega) (by omega)) (m 6 (by omega) (by omega)) (m 7 (by omega) (by omega)) (m 8 (by omega) (by omega)) (m 9 (by omega) (by omega)) (m 10 (by omega) (by omega)) (m 11 (by omega) (by omega)) (m 12 (by omega) (by omega)) (m 13 (by omega) (by omega)) (m 14 (by omega) (by omega)) (m 15 (by omega) (by omega)) (m 16 (by omega) (by omega)) , hR.2.1.mono (fun z _ => hch.sm (hX 1 z (by omega))) (m 17 (by omega) (by omega)) , hR.2.2.1.mono (fun z _ => hch.sm (hX 5 z (by omega))) (m 40 (by omega) (by omega)) (c 29), hR.2.2.2.1.mono (fun z _ => hch.sm (hX 2 z (by omega))) (m 23 (by omega) (by omega)) (m 24 (by omega) (by omega)) (m 25 (by omega) (by omega)) (m 26 (by omega) (by omega)) (m 27 (by omega) (by omega)) (m 28 (by omega) (by omega)) (c 22), ?_, hR.2.2.2.2.2.1.mono (fun z _ => hch.sm (hX 4 z (by omega))) (m 30 (by omega) (by omega)) (m 31 (by omega) (by omega)) (m 32 (by omega) (by omega)) (m 33 (by omega) (by omega)) (m 34 (by omega) (by omega)) (m 35 (by omega) (by omega)) (m 36 (by omega) (by omega)) (m 37 (by omega) (by omega)) (m 38 (by omega) (by omega)) (m 39 (by omega) (by omega)) (m 43 (by omega) (by omega)) (c 29), hR.2.2.2.2.2.2.1.mono (fun z _ => hch.sm (hX 4 z (by omega))) (m 45 (by omega) (by omega)) (c 29), hR.2.2.2.2.2.2.2.1.mono (fun z _ => hch.sm (hX 10 z (by omega))) (m 44 (by omega) (by omega)) (c 29), hR.2.2.2.2.2.2.2.2.1.mono (hch.sm (hX 9 0 (by omega)))  (c 1) (c 2) (c 3) (c 4) (c 56) (c 57) (c 58), hR.2.2.2.2.2.2.2.2.2.1.mono (hch.sm (hX 9 1 (by omega))) (m 20 (by omega) (by omega)) (m 21 (by omega) (by omega)) (c 1), hR.2.2.2.2.2.2.2.2.2.2.mono (fun k i z hc => hch.lst (hL k i z) hc) (m 18 (by omega) (by omega)) (m 19 (by omega) (by omega)) (m 41 (by omega) (by omega)) (m 42 (by omega) (by omega)) (c 22) (c 29) (c 46)⟩
        · intro x hx
          rw [show nCo M2 = nCo (mSet M 0 0) by unfold nCo; rw [c 46]] at hx
          rw [mInB_eq (m 24 (by omega) (by omega)) (m 25 (by omega) (by omega)), show nBg M2 = nBg (mSet M 0 0) by unfold nBg; rw [c 22]]
          obtain ⟨h0, h300, h301, h302, h303, h304, h305, h306, h307, h308, h309, h310⟩ := hR.2.2.2.2.1 x hx
          have ed : (d 3 x = d 3 s) = (x = s) := propext ⟨fun y => (hd _ _ _ _ y).2, fun y => by rw [y]⟩
          refine ⟨(hch.2.2.1 _).trans h0, ?_⟩
          rw [← hS2, ← hM2]
          by_cases q : x = s
          · subst q
            simp only [cFi_setI, cFr_setI, cFi_setR, cFr_setR, cFi_ast, cFr_ast, cRi_ast, cRi_setI, cRi_setR, mAst_2, mSet_1, eq_self, Nat.reduceEqDiff, and_false, false_and, and_true, true_and, and_self, if_true, if_false, not_true_eq_false, not_false_eq_true, false_implies, true_implies, implies_true, ed]
            exact ⟨h300, h301, h302, h304, h305, h306, h307, h308, h309⟩
          · simp only [cFi_setI, cFr_setI, cFi_setR, cFr_setR, cFi_ast, cFr_ast, cRi_ast, cRi_setI, cRi_setR, mAst_2, mSet_1, eq_self, Nat.reduceEqDiff, and_false, false_and, and_true, true_and, and_self, if_true, if_false, not_true_eq_false, not_false_eq_true, false_implies, true_implies, implies_true, ed, q]
            exact ⟨h300, h301, h302, h303, h304, h305, h306, h307, h308, h309, h310⟩
      have hi2 : iAll M2 := by
        refine ⟨hi.1.mono  (c 29) (c 22) (c 46), hi.2.1.mono (m 9 (by omega) (by omega)) (m 7 (by omega) (by omega)) (m 5 (by omega) (by omega)) (m 15 (by omega) (by omega)) , hi.2.2.1.mono (m 18 (by omega) (by omega)) (m 17 (by omega) (by omega)) (m 19 (by omega) (by omega)) (m 28 (by omega) (by omega)) (m 27 (by omega) (by omega)) (c 22), hi.2.2.2.1.mono (m 42 (by omega) (by omega)) (m 40 (by omega) (by omega)) (m 41 (by omega) (by omega)) (m 28 (by omega) (by omega)) (c 29) (c 22), hi.2.2.2.2.1.mono (m 28 (by omega) (by omega)) (m 27 (by omega) (by omega)) (m 18 (by omega) (by omega)) (m 19 (by omega) (by omega)) (m 42 (by omega) (by omega)) (m 41 (by omega) (by omega)) (m 24 (by omega) (by omega)) (m 25 (by omega) (by omega)) (m 23 (by omega) (by omega)) (c 22) (c 29) (c 46), ?_, hi.2.2.2.2.2.2.1.mono (m 37 (by omega) (by omega)) (m 35 (by omega) (by omega)) (m 34 (by omega) (by omega)) (m 33 (by omega) (by omega)) (m 36 (by omega) (by omega)) (c 29), hi.2.2.2.2.2.2.2.1.mono (m 45 (by omega) (by omega)) (c 29), ?_, hi.2.2.2.2.2.2.2.2.2.mono (m 20 (by omega) (by omega)) (c 1) (c 4)⟩
        · intro x2 hx2
          rw [show nCo M2 = nCo (mSet M 0 0) by unfold nCo; rw [c 46]] at hx2
          obtain ⟨i1, i2, i3, i4⟩ := hi.2.2.2.2.2.1 x2 hx2
          rw [m 47 (by omega) (by omega), m 48 (by omega) (by omega), m 51 (by omega) (by omega)]
          refine ⟨i1, i2, ?_, i4⟩
          rw [← hM2, mAst_ne (by omega), mAst_eq]
          by_cases w : x2 = s
          · rw [if_pos w]
            rw [show (8 : Int32) = nI 8 from rfl, idx (by omega)] at v2
            obtain ⟨j, hj, rfl⟩ := v2
            exact xin_nI hj (by omega)
          · rw [if_neg w]
            exact i3
        · obtain ⟨z1, z2⟩ := hi.2.2.2.2.2.2.2.2.1
          have n2a : nBt M2 = nBt (mSet M 0 0) := by unfold nBt; rw [c 29]
          have n2b : nCo M2 = nCo (mSet M 0 0) := by unfold nCo; rw [c 46]
          refine ⟨fun w hw hn => ?_, fun x2 hx2 hn => ?_⟩
          · rw [n2a] at hn
            rw [m 32 (by omega) (by omega), m 39 (by omega) (by omega), m 42 (by omega) (by omega), m 43 (by omega) (by omega), m 44 (by omega) (by omega), m 35 (by omega) (by omega)]
            exact z1 w hw hn
          · rw [n2b, n46] at hn
            rw [m 53 (by omega) (by omega), m 54 (by omega) (by omega)]
            obtain ⟨y1, y2, y3⟩ := z2 x2 hx2 hn
            refine ⟨y1, y2, ?_⟩
            rw [← hM2, mAst_eq, if_neg (by omega), mAst_ne (by omega)]
            exact y3
      have hE : RR W9 B (d 9 0) S2 M2 := by
        have hw : ways M2 (nBt (mSet M 0 0)) = ways (mSet M 0 0) (nBt (mSet M 0 0)) := ways_same _ (fun v _ => way_of (by rw [m 34 (by omega) (by omega)]) (by rw [m 37 (by omega) (by omega)]) (by rw [m 33 (by omega) (by omega)]) (by rw [m 35 (by omega) (by omega)]))
        exact ⟨d, np, N, (RRd_step h0d hR2 hi2 hw hch (hX 9 2 (by omega)) (fun i => hX 11 i (by omega)) (fun i => hX 12 i (by omega)) (c 22 ) (c 29 ) (m 27 (by omega) (by omega)) (m 28 (by omega) (by omega)) (m 33 (by omega) (by omega)) (m 34 (by omega) (by omega))).1⟩
      have hE0 : M2.1 0 = 0 := by rw [← hM2]; first | rfl | simp [mAst_1, mSet_1]
      exact hk _ _ (ans_1 hE (by rw [ho', hM2]) hE0 rfl)

theorem Q_fuel {W9 : xWd} {B a : Nat} {S : cS} {M : mS} {k : Int32} {y : Int32} {K : xRes → cS → Prop} (h : RR W9 B a S M) (hk : ∀ r S2, ans [eB, eA, eS] W9 B a (oFuel M k y) r S2 → K r S2) : (spX7_fuel W9).2 [.ref a, .int k, .int y] S K := by
  have h0 := RR_set0 (z := 0) h
  have h00 := h0
  obtain ⟨d, np, N, h0d⟩ := h00
  have h0e := h0d
  obtain ⟨hd, rfl, hi, hR, hp, hl, hN, hB⟩ := h0e
  have g0 := hR.2.2.2.2.2.2.2.2.1.1
  obtain ⟨g7, g8, g9, g10, g11, g12, g13⟩ := hR.2.2.2.2.2.2.2.2.1.2.2
  have e29 : M.1 29 = nI (nBt M) := hi.1.1.1
  have e22 : M.1 22 = nI (nBg M) := hi.1.2.1.1
  have e46 : M.1 46 = nI (nCo M) := hi.1.2.2.1
  have b29 : nBt M ≤ 6 := hi.1.1.2
  have b22 : nBg M ≤ 24 := hi.1.2.1.2
  have b46 : nCo M ≤ 12 := hi.1.2.2.2
  have n29 : nBt (mSet M 0 0) = nBt M := rfl
  have n22 : nBg (mSet M 0 0) = nBg M := rfl
  have n46 : nCo (mSet M 0 0) = nCo M := rfl
  obtain ⟨f1, f2, f3, f4, f5, f6⟩ := R0_boats hR
  rw [n29] at f4 f5 f6
  rw [spwX7_fuel, f2, f5]
  refine ⟨g0, ⟨f1, f3⟩, fun q => hk _ _ (ans_e h (z := 1) ?_ (by decide) rfl), fun v => ?_⟩
  · unfold oFuel
    rw [if_pos (fun z => q (by rw [← le_m1 (by omega), ← e29]; exact z))]
  · have y0 : (0 ≤ k ∧ k ≤ M.1 29 - 1) := by rw [e29, le_m1 (by omega)]; exact v
    rw [idx (by omega)] at v
    obtain ⟨s, hs, rfl⟩ := v
    have hC := hR.2.2.2.2.2.1 s hs
    have e204 : cFi S (d 4 s) 204 = M.2 32 s := hC.2.2.2.2.2.1
    have e207 : cFi S (d 4 s) 207 = M.2 34 s := hC.2.2.2.2.2.2.2.2.1
    have e813 : cFi S (d 9 0) 813 = M.1 58 := g13
    have hT0 := True.intro
    rw [ix_nI (show s < 1000 by omega), f6 s hs, e204, e207, e813]
    have ho' : oFuel M (nI s) y = if ¬ (1 ≤ y ∧ y ≤ 999) then (0, mSet M 0 2) else if ¬ M.2 34 s = -1 ∨ 999 < M.2 32 s + y then (0, mSet M 0 3) else (M.2 32 s + y, mSet (mAst (mSet M 0 0) 32 s (M.2 32 s + y)) 58 (M.1 58 + y)) := by
      unfold oFuel
      rw [if_neg (not_not_intro y0), ix_nI (show s < 1000 by omega)]
    refine ⟨fun q => hk _ _ (ans_e h (z := 2) ?_ (by decide) rfl), fun y2 => ⟨fun q => hk _ _ (ans_e h (z := 3) ?_ (by decide) rfl), fun q => ?_⟩⟩
    · rw [ho', if_pos q]
    · rw [ho', if_neg (not_not_intro y2), if_pos]
      by_cases z : M.2 34 s = -1
      · exact Or.inr (Int32.not_le.mp (fun w => q ⟨z, w⟩))
      · exact Or.inl z
    · rw [if_neg (not_not_intro y2), if_neg (fun z => z.elim (fun w => w q.1) (fun w => (Int32.not_le.mpr w) q.2))] at ho'
      generalize hM2 : mSet (mAst (mSet M 0 0) 32 s (M.2 32 s + y)) 58 (M.1 58 + y) = M2
      have m : ∀ k, k ≠ 32 → M2.2 k = (mSet M 0 0).2 k := by
        intro k a0
        rw [← hM2]
        first | rfl | (simp only [mAst_2]; funext n; repeat rw [if_neg (fun z => by omega)]) | (funext n; simp only [mAst_2, mSet_2]; repeat rw [if_neg (fun z => by omega)])
      have c : ∀ k, k ≠ 58 → M2.1 k = (mSet M 0 0).1 k := by
        intro k a0
        rw [← hM2]
        first | rfl | (simp only [mAst_1, mSet_1]; repeat rw [if_neg (by omega)]) | (repeat rw [mSet_ne (by omega)]; rfl) | (repeat rw [mSet_ne (by omega)])
      generalize hS2 : cSetI (cSetI S (d 4 s) 204 (M.2 32 s + y)) (d 9 0) 813 (M.1 58 + y) = S2
      have hch : chg S S2 (fun b => b = d 4 s ∨ b = d 9 0) := by
        rw [← hS2]
        exact (chg.sI (X := (fun b => b = d 4 s ∨ b = d 9 0)) (chg.sI (X := (fun b => b = d 4 s ∨ b = d 9 0)) (chg.rf (X := (fun b => b = d 4 s ∨ b = d 9 0))) (Or.inl rfl)) (Or.inr rfl))
      have hX : ∀ (k i : Nat), ¬ (k = 4 ∧ i = s) ∧ ¬ (k = 9 ∧ i = 0) → ¬ (fun b => b = d 4 s ∨ b = d 9 0) (d k i) := fun k i z y => y.elim (fun y => z.1 (hd _ _ _ _ y)) (fun y => z.2 (hd _ _ _ _ y))
      have hL : ∀ k i, isL (mSet M 0 0) k i → ¬ (fun b => b = d 4 s ∨ b = d 9 0) (d k i) := fun k i z => hX k i (by rcases z with ⟨rfl, _⟩ | ⟨rfl, _⟩ | ⟨rfl, _⟩ <;> omega)
      have hR2 : R0 W9 d S2 M2 := by
        refine ⟨hR.1.mono (fun z _ => hch.sm (hX 0 z (by omega))) (m 5 (by omega)) (m 6 (by omega)) (m 7 (by omega)) (m 8 (by omega)) (m 9 (by omega)) (m 10 (by omega)) (m 11 (by omega)) (m 12 (by omega)) (m 13 (by omega)) (m 14 (by omega)) (m 15 (by omega)) (m 16 (by omega)) , hR.2.1.mono (fun z _ => hch.sm (hX 1 z (by omega))) (m 17 (by omega)) , hR.2.2.1.mono (fun z _ => hch.sm (hX 5 z (by omega))) (m 40 (by omega)) (c 29 (by omega)), hR.2.2.2.1.mono (fun z _ => hch.sm (hX 2 z (by omega))) (m 23 (by omega)) (m 24 (by omega)) (m 25 (by omega)) (m 26 (by omega)) (m 27 (by omega)) (m 28 (by omega)) (c 22 (by omega)), hR.2.2.2.2.1.mono (fun z _ => hch.sm (hX 3 z (by omega))) (m 47 (by omega)) (m 48 (by omega)) (m 49 (by omega)) (m 50 (by omega)) (m 51 (by omega)) (m 52 (by omega)) (m 53 (by omega)) (m 54 (by omega)) (m 55 (by omega)) (m 24 (by omega)) (m 25 (by omega)) (c 46 (by omega)) (c 22 (by omega)), ?_, ?_, hR.2.2.2.2.2.2.2.1.mono (fun z _ => hch.sm (hX 10 z (by omega))) (m 44 (by omega)) (c 29 (by omega)), ?_, hR.2.2.2.2.2.2.2.2.2.1.mono (hch.sm (hX 9 1 (by omega))) (m 20 (by omega)) (m 21 (by omega)) (c 1 (by omega)), hR.2.2.2.2.2.2.2.2.2.2.mono (fun k i z hc => hch.lst (hL k i z) hc) (m 18 (by omega)) (m 19 (by omega)) (m 41 (by omega)) (m 42 (by omega)) (c 22 (by omega)) (c 29 (by omega)) (c 46 (by omega))⟩
        · intro x hx
          rw [show nBt M2 = nBt (mSet M 0 0) by unfold nBt; rw [c 29 (by omega)]] at hx
          have n40 : ∀ x, (d 4 x = d 9 0) = False := fun x => eq_false (hd.ne (by omega))
          obtain ⟨h0, h200, h201, h202, h203, h204, h205, h206, h207, h208, h209, h210, h211, h213, h214⟩ := hR.2.2.2.2.2.1 x hx
          have ed : (d 4 x = d 4 s) = (x = s) := propext ⟨fun y => (hd _ _ _ _ y).2, fun y => by rw [y]⟩
          refine ⟨(hch.2.2.1 _).trans h0, ?_⟩
          rw [← hS2, ← hM2]
          by_cases q : x = s
          · subst q
            simp only [cFi_setI, cFr_setI, cFi_setR, cFr_setR, cFi_ast, cFr_ast, cRi_ast, cRi_setI, cRi_setR, mAst_2, mSet_1, eq_self, Nat.reduceEqDiff, and_false, false_and, and_true, true_and, and_self, if_true, if_false, not_true_eq_false, not_false_eq_true, false_implies, true_implies, implies_true, ed, n40, mSet_2]
            exact ⟨h200, h201, h202, h203, h205, h206, h207, h208, h209, h210, h211, h213, h214⟩
          · simp only [cFi_setI, cFr_setI, cFi_setR, cFr_setR, cFi_ast, cFr_ast, cRi_ast, cRi_setI, cRi_setR, mAst_2, mSet_1, eq_self, Nat.reduceEqDiff, and_false, false_and, and_true, true_and, and_self, if_true, if_false, not_true_eq_false, not_false_eq_true, false_implies, true_implies, implies_true, ed, q, n40, mSet_2]
            exact ⟨h200, h201, h202, h203, h204, h205, h206, h207, h208, h209, h210, h211, h213, h214⟩
        · intro x hx v hv
          rw [show nBt M2 = nBt (mSet M 0 0) by unfold nBt; rw [c 29 (by omega)]] at hx
          rw [m 45 (by omega), ← hS2, cFi_setI, if_neg (by omega), cFi_setI, if_neg (by omega)]
          exact hR.2.2.2.2.2.2.1 x hx v hv
        · obtain ⟨a0, a1, a807, a808, a809, a810, a811, a812, a813⟩ := hR.2.2.2.2.2.2.2.2.1
          refine ⟨(hch.2.2.1 _).trans a0, by rw [← hS2]; exact a1, ?_⟩
          rw [← hS2, ← hM2]
          simp only [cFi_setI, cFr_setI, cFi_setR, cFr_setR, cFi_ast, cFr_ast, cRi_ast, cRi_setI, cRi_setR, mAst_2, mSet_1, eq_self, Nat.reduceEqDiff, and_false, false_and, and_true, true_and, and_self, if_true, if_false, not_true_eq_false, not_false_eq_true, false_implies, true_implies, implies_true, hT0, show (d 9 0 = d 4 s) = False from eq_false (hd.ne (by omega))]
          exact ⟨a807, a808, a809, a810, a811, a812⟩
      have hi2 : iAll M2 := by
        refine ⟨hi.1.mono  (c 29 (by omega)) (c 22 (by omega)) (c 46 (by omega)), hi.2.1.mono (m 9 (by omega)) (m 7 (by omega)) (m 5 (by omega)) (m 15 (by omega)) , hi.2.2.1.mono (m 18 (by omega)) (m 17 (by omega)) (m 19 (by omega)) (m 28 (by omega)) (m 27 (by omega)) (c 22 (by omega)), hi.2.2.2.1.mono (m 42 (by omega)) (m 40 (by omega)) (m 41 (by omega)) (m 28 (by omega)) (c 29 (by omega)) (c 22 (by omega)), hi.2.2.2.2.1.mono (m 28 (by omega)) (m 27 (by omega)) (m 18 (by omega)) (m 19 (by omega)) (m 42 (by omega)) (m 41 (by omega)) (m 24 (by omega)) (m 25 (by omega)) (m 23 (by omega)) (c 22 (by omega)) (c 29 (by omega)) (c 46 (by omega)), hi.2.2.2.2.2.1.mono (m 47 (by omega)) (m 48 (by omega)) (m 49 (by omega)) (m 51 (by omega)) (c 46 (by omega)), hi.2.2.2.2.2.2.1.mono (m 37 (by omega)) (m 35 (by omega)) (m 34 (by omega)) (m 33 (by omega)) (m 36 (by omega)) (c 29 (by omega)), hi.2.2.2.2.2.2.2.1.mono (m 45 (by omega)) (c 29 (by omega)), ?_, hi.2.2.2.2.2.2.2.2.2.mono (m 20 (by omega)) (c 1 (by omega)) (c 4 (by omega))⟩
        · obtain ⟨z1, z2⟩ := hi.2.2.2.2.2.2.2.2.1
          have n2a : nBt M2 = nBt (mSet M 0 0) := by unfold nBt; rw [c 29 (by omega)]
          have n2b : nCo M2 = nCo (mSet M 0 0) := by unfold nCo; rw [c 46 (by omega)]
          refine ⟨fun w hw hn => ?_, fun x2 hx2 hn => ?_⟩
          · rw [n2a, n29] at hn
            obtain ⟨y1, y3⟩ := z1 w hw hn
            rw [m 39 (by omega), m 42 (by omega), m 43 (by omega), m 44 (by omega), m 35 (by omega)]
            refine ⟨?_, y3⟩
            rw [← hM2]
            show (mAst (mSet M 0 0) 32 s (M.2 32 s + y)).2 32 w = 0
            rw [mAst_eq, if_neg (by omega)]
            exact y1
          · rw [n2b] at hn
            rw [m 53 (by omega), m 54 (by omega), m 55 (by omega)]
            exact z2 x2 hx2 hn
      have hE : RR W9 B (d 9 0) S2 M2 := by
        have hw : ways M2 (nBt (mSet M 0 0)) = ways (mSet M 0 0) (nBt (mSet M 0 0)) := ways_same _ (fun v _ => way_of (by rw [m 34 (by omega)]) (by rw [m 37 (by omega)]) (by rw [m 33 (by omega)]) (by rw [m 35 (by omega)]))
        exact ⟨d, np, N, (RRd_step h0d hR2 hi2 hw hch (hX 9 2 (by omega)) (fun i => hX 11 i (by omega)) (fun i => hX 12 i (by omega)) (c 22 (by omega)) (c 29 (by omega)) (m 27 (by omega)) (m 28 (by omega)) (m 33 (by omega)) (m 34 (by omega))).1⟩
      have hE0 : M2.1 0 = 0 := by rw [← hM2]; first | rfl | simp [mAst_1, mSet_1]
      exact hk _ _ (ans_1 hE (by rw [ho', hM2]) hE0 rfl)

