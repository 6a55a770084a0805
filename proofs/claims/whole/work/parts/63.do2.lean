/-! The class's answers are the reference's: locks, water, weather, fog, tiers, contracts' goals, fuel, width. -/
theorem t10 : ((1 : Int32) = 0) = False := eq_false (by decide)
theorem mCnt_set {M : mS} {s z : Int32} : ∀ n, mCnt (mSet M 0 z) s n = mCnt M s n
  | 0 => rfl
  | n + 1 => by
    show mCnt (mSet M 0 z) s n + _ = mCnt M s n + _
    rw [mCnt_set n]
    rfl

theorem Q_lock {W9 : xWd} {B a : Nat} {S : cS} {M : mS} {k : Int32} {cc : Int32} {tt : Int32} {z : Int32} {K : xRes → cS → Prop} (h : RR W9 B a S M) (hz : z = 0 ∨ z = 1) (hk : ∀ r S2, ansV [eB, eA, eS] W9 B a (oLock M k cc tt z) r S2 → K r S2) : (spX7_lock W9).2 [.ref a, .int k, .int cc, .int tt, .int z] S K := by
  have h0 := RR_set0 (z := 0) h
  have h00 := h0
  obtain ⟨d, np, N, h0d⟩ := h00
  have h0e := h0d
  obtain ⟨hd, rfl, hi, hR, hp, hl, hN, hB⟩ := h0e
  have g0 := hR.2.2.2.2.2.2.2.2.1.1
  obtain ⟨g7, g8, g9, g10, g11, g12, g13⟩ := hR.2.2.2.2.2.2.2.2.1.2.2
  have e29 : M.1 29 = nI (nBt M) := hi.1.1.1
  have e22 : M.1 22 = nI (nBg M) := hi.1.2.1.1
  have e46 : M.1 46 = nI (nCo M) := hi.1.2.2.1
  have b29 : nBt M ≤ 6 := hi.1.1.2
  have b22 : nBg M ≤ 24 := hi.1.2.1.2
  have b46 : nCo M ≤ 12 := hi.1.2.2.2
  have n29 : nBt (mSet M 0 0) = nBt M := rfl
  have n22 : nBg (mSet M 0 0) = nBg M := rfl
  have n46 : nCo (mSet M 0 0) = nCo M := rfl
  obtain ⟨f1, f2, f3, f4, f5, f6⟩ := R0_list hR
  have f5 : cFi S (d 6 0) 2 = nI 7 := f5
  obtain ⟨s1, s2, s3, s4, s5, s6⟩ := R0_boats hR
  rw [n29] at s4 s5 s6
  rw [spwX7_lock, f2, f5, s2, s4]
  refine ⟨hz, g0, ⟨f1, f3⟩, ⟨s1, s3⟩, fun y => hk _ _ (ansV_e h (z := 1) ?_ (by decide) rfl), fun y => ⟨fun y2 => hk _ _ (ansV_e h (z := 2) ?_ (by decide) rfl), fun y2 => ?_⟩⟩
  · unfold oLock
    rw [if_pos (by rw [idx6]; exact y)]
  · unfold oLock
    rw [if_neg (not_not_intro (by rw [idx6]; exact y)), if_pos y2]
  · have y0 : (0 ≤ k ∧ k ≤ 6) := by rw [idx6]; exact y
    rw [idx (by omega)] at y
    obtain ⟨s, hs, rfl⟩ := y
    have e600 := (hR.1 s hs).2.1
    have hbz := R0_bz hR hi (nI s)
    have ho' : oLock M (nI s) cc tt z = if 0 < mCnt M (nI s) (nBt M) then mSet M 0 3 else mAst (mAst (mAst (mAst (mAst (mAst (mSet M 0 0) 5 s 1) 12 s cc) 13 s tt) 14 s z) 15 s 0) 16 s 0 := by
      unfold oLock
      rw [if_neg (not_not_intro y0), if_neg (not_not_intro y2), ix_nI (show s < 1000 by omega)]
    rw [n29, mCnt_set] at hbz
    rw [ix_nI (show s < 1000 by omega), f6 s hs, e600]
    refine ⟨fun q => hk _ _ (ansV_e h (z := 3) ?_ (by decide) rfl), fun q => ?_⟩
    · rw [ho', if_pos]
      rw [← hbz]
      rw [Bool.not_eq_false] at q
      exact q
    · have hq : ¬ 0 < mCnt M (nI s) (nBt M) := by rw [← hbz, q]; exact fun z => nomatch z
      rw [if_neg hq] at ho'
      generalize hM2 : mAst (mAst (mAst (mAst (mAst (mAst (mSet M 0 0) 5 s 1) 12 s cc) 13 s tt) 14 s z) 15 s 0) 16 s 0 = M2
      have m : ∀ k, k ≠ 5 → k ≠ 12 → k ≠ 13 → k ≠ 14 → k ≠ 15 → k ≠ 16 → M2.2 k = (mSet M 0 0).2 k := by
        intro k a0 a1 a2 a3 a4 a5
        rw [← hM2]
        first | rfl | (simp only [mAst_2]; funext n; repeat rw [if_neg (fun z => by omega)]) | (funext n; simp only [mAst_2, mSet_2]; repeat rw [if_neg (fun z => by omega)])
      have c : ∀ k, M2.1 k = (mSet M 0 0).1 k := by
        intro k 
        rw [← hM2]
        first | rfl | (simp only [mAst_1, mSet_1]; repeat rw [if_neg (by omega)]) | (repeat rw [mSet_ne (by omega)]; rfl) | (repeat rw [mSet_ne (by omega)])
      generalize hS2 : cSetI (cSetI (cSetI (cSetI (cSetI (cSetI (cSetI S (d 0 s) 604 1) (d 0 s) 607 0) (d 0 s) 608 cc) (d 0 s) 609 tt) (d 0 s) 610 z) (d 0 s) 611 0) (d 0 s) 612 0 = S2
      have hch : chg S S2 (fun b => b = d 0 s) := by
        rw [← hS2]
        exact (chg.sI (X := (fun b => b = d 0 s)) (chg.sI (X := (fun b => b = d 0 s)) (chg.sI (X := (fun b => b = d 0 s)) (chg.sI (X := (fun b => b = d 0 s)) (chg.sI (X := (fun b => b = d 0 s)) (chg.sI (X := (fun b => b = d 0 s)) (chg.sI (X := (fun b => b = d 0 s)) (chg.rf (X := (fun b => b = d 0 s))) rfl) rfl) rfl) rfl) rfl) rfl) rfl)
      have hX : ∀ (k i : Nat), ¬ (k = 0 ∧ i = s) → ¬ (fun b => b = d 0 s) (d k i) := fun k i z y => z (hd _ _ _ _ y)
      have hL : ∀ k i, isL (mSet M 0 0) k i → ¬ (fun b => b = d 0 s) (d k i) := fun k i z => hX k i (by rcases z with ⟨rfl, _⟩ | ⟨rfl, _⟩ | ⟨rfl, _⟩ <;> omega)
      have hR2 : R0 W9 d S2 M2 := by
        refine ⟨?_, hR.2.1.mono (fun z _ => hch.sm (hX 1 z (by omega))) (m 17 (by omega) (by omega) (by omega) (by omega) (by omega) (by omega)) , hR.2.2.1.mono (fun z _ => hch.sm (hX 5 z (by omega))) (m 40 (by omega) (by omega) (by omega) (by omega) (by omega) (by omega)) (c 29), hR.2.2.2.1.mono (fun z _ => hch.sm (hX 2 z (by omega))) (m 23 (by omega) (by omega) (by omega) (by omega) (by omega) (by omega)) (m 24 (by omega) (by omega) (by omega) (by omega) (by omega) (by omega)) (m 25 (by omega) (by omega) (by omega) (by omega) (by omega) (by omega)) (m 26 (by omega) (by omega) (by omega) (by omega) (by omega) (by omega)) (m 27 (by omega) (by omega) (by omega) (by omega) (by omega) (by omega)) (m 28 (by omega) (by omega) (by omega) (by omega) (by omega) (by omega)) (c 22), hR.2.2.2.2.1.mono (fun z _ => hch.sm (hX 3 z (by omega))) (m 47 (by omega) (by omega) (by omega) (by omega) (by omega) (by omega)) (m 48 (by omega) (by omega) (by omega) (by omega) (by omega) (by omega)) (m 49 (by omega) (by omega) (by omega) (by omega) (by omega) (by omega)) (m 50 (by omega) (by omega) (by omega) (by omega) (by omega) (by omega)) (m 51 (by omega) (by omega) (by omega) (by omega) (by omega) (by omega)) (m 52 (by omega) (by omega) (by omega) (by omega) (by omega) (by omega)) (m 53 (by omega) (by omega) (by omega) (by omega) (by omega) (by omega)) (m 54 (by omega) (by omega) (by omega) (by omega) (by omega) (by omega)) (m 55 (by omega) (by omega) (by omega) (by omega) (by omega) (by omega)) (m 24 (by omega) (by omega) (by omega) (by omega) (by omega) (by omega)) (m 25 (by omega) (by omega) (by omega) (by omega) (by omega) (by omega)) (c 46) (c 22), hR.2.2.2.2.2.1.mono (fun z _ => hch.sm (hX 4 z (by omega))) (m 30 (by omega) (by omega) (by omega) (by omega) (by omega) (by omega)) (m 31 (by omega) (by omega) (by omega) (by omega) (by omega) (by omega)) (m 32 (by omega) (by omega) (by omega) (by omega) (by omega) (by omega)) (m 33 (by omega) (by omega) (by omega) (by omega) (by omega) (by omega)) (m 34 (by omega) (by omega) (by omega) (by omega) (by omega) (by omega)) (m 35 (by omega) (by omega) (by omega) (by omega) (by omega) (by omega)) (m 36 (by omega) (by omega) (by omega) (by omega) (by omega) (by omega)) (m 37 (by omega) (by omega) (by omega) (by omega) (by omega) (by omega)) (m 38 (by omega) (by omega) (by omega) (by omega) (by omega) (by omega)) (m 39 (by omega) (by omega) (by omega) (by omega) (by omega) (by omega)) (m 43 (by omega) (by omega) (by omega) (by omega) (by omega) (by omega)) (c 29), hR.2.2.2.2.2.2.1.mono (fun z _ => hch.sm (hX 4 z (by omega))) (m 45 (by omega) (by omega) (by omega) (by omega) (by omega) (by omega)) (c 29), hR.2.2.2.2.2.2.2.1.mono (fun z _ => hch.sm (hX 10 z (by omega))) (m 44 (by omega) (by omega) (by omega) (by omega) (by omega) (by omega)) (c 29), hR.2.2.2.2.2.2.2.2.1.mono (hch.sm (hX 9 0 (by omega)))  (c 1) (c 2) (c 3) (c 4) (c 56) (c 57) (c 58), hR.2.2.2.2.2.2.2.2.2.1.mono (hch.sm (hX 9 1 (by omega))) (m 20 (by omega) (by omega) (by omega) (by omega) (by omega) (by omega)) (m 21 (by omega) (by omega) (by omega) (by omega) (by omega) (by omega)) (c 1), hR.2.2.2.2.2.2.2.2.2.2.mono (fun k i z hc => hch.lst (hL k i z) hc) (m 18 (by omega) (by omega) (by omega) (by omega) (by omega) (by omega)) (m 19 (by omega) (by omega) (by omega) (by omega) (by omega) (by omega)) (m 41 (by omega) (by omega) (by omega) (by omega) (by omega) (by omega)) (m 42 (by omega) (by omega) (by omega) (by omega) (by omega) (by omega)) (c 22) (c 29) (c 46)⟩
        · intro x hx
          obtain ⟨h0, h600, h601, h602, h603, h604, h605, h606, h607, h608, h609, h610, h611, h612⟩ := hR.1 x hx
          have ed : (d 0 x = d 0 s) = (x = s) := propext ⟨fun y => (hd _ _ _ _ y).2, fun y => by rw [y]⟩
          refine ⟨(hch.2.2.1 _).trans h0, ?_⟩
          rw [← hS2, ← hM2]
          by_cases q : x = s
          · subst q
            simp only [t10, cFi_setI, cFr_setI, cFi_setR, cFr_setR, cFi_ast, cFr_ast, cRi_ast, cRi_setI, cRi_setR, mAst_2, mSet_1, eq_self, Nat.reduceEqDiff, and_false, false_and, and_true, true_and, and_self, if_true, if_false, not_true_eq_false, not_false_eq_true, false_implies, true_implies, implies_true, ed]
            exact ⟨h600, h601, h602, h603, h605, h606⟩
          · simp only [cFi_setI, cFr_setI, cFi_setR, cFr_setR, cFi_ast, cFr_ast, cRi_ast, cRi_setI, cRi_setR, mAst_2, mSet_1, eq_self, Nat.reduceEqDiff, and_false, false_and, and_true, true_and, and_self, if_true, if_false, not_true_eq_false, not_false_eq_true, false_implies, true_implies, implies_true, ed, q]
            exact ⟨h600, h601, h602, h603, h604, h605, h606, h607, h608, h609, h610, h611, h612⟩
      have hi2 : iAll M2 := by
        refine ⟨hi.1.mono  (c 29) (c 22) (c 46), ?_, hi.2.2.1.mono (m 18 (by omega) (by omega) (by omega) (by omega) (by omega) (by omega)) (m 17 (by omega) (by omega) (by omega) (by omega) (by omega) (by omega)) (m 19 (by omega) (by omega) (by omega) (by omega) (by omega) (by omega)) (m 28 (by omega) (by omega) (by omega) (by omega) (by omega) (by omega)) (m 27 (by omega) (by omega) (by omega) (by omega) (by omega) (by omega)) (c 22), hi.2.2.2.1.mono (m 42 (by omega) (by omega) (by omega) (by omega) (by omega) (by omega)) (m 40 (by omega) (by omega) (by omega) (by omega) (by omega) (by omega)) (m 41 (by omega) (by omega) (by omega) (by omega) (by omega) (by omega)) (m 28 (by omega) (by omega) (by omega) (by omega) (by omega) (by omega)) (c 29) (c 22), hi.2.2.2.2.1.mono (m 28 (by omega) (by omega) (by omega) (by omega) (by omega) (by omega)) (m 27 (by omega) (by omega) (by omega) (by omega) (by omega) (by omega)) (m 18 (by omega) (by omega) (by omega) (by omega) (by omega) (by omega)) (m 19 (by omega) (by omega) (by omega) (by omega) (by omega) (by omega)) (m 42 (by omega) (by omega) (by omega) (by omega) (by omega) (by omega)) (m 41 (by omega) (by omega) (by omega) (by omega) (by omega) (by omega)) (m 24 (by omega) (by omega) (by omega) (by omega) (by omega) (by omega)) (m 25 (by omega) (by omega) (by omega) (by omega) (by omega) (by omega)) (m 23 (by omega) (by omega) (by omega) (by omega) (by omega) (by omega)) (c 22) (c 29) (c 46), hi.2.2.2.2.2.1.mono (m 47 (by omega) (by omega) (by omega) (by omega) (by omega) (by omega)) (m 48 (by omega) (by omega) (by omega) (by omega) (by omega) (by omega)) (m 49 (by omega) (by omega) (by omega) (by omega) (by omega) (by omega)) (m 51 (by omega) (by omega) (by omega) (by omega) (by omega) (by omega)) (c 46), hi.2.2.2.2.2.2.1.mono (m 37 (by omega) (by omega) (by omega) (by omega) (by omega) (by omega)) (m 35 (by omega) (by omega) (by omega) (by omega) (by omega) (by omega)) (m 34 (by omega) (by omega) (by omega) (by omega) (by omega) (by omega)) (m 33 (by omega) (by omega) (by omega) (by omega) (by omega) (by omega)) (m 36 (by omega) (by omega) (by omega) (by omega) (by omega) (by omega)) (c 29), hi.2.2.2.2.2.2.2.1.mono (m 45 (by omega) (by omega) (by omega) (by omega) (by omega) (by omega)) (c 29), hi.2.2.2.2.2.2.2.2.1.mono (m 32 (by omega) (by omega) (by omega) (by omega) (by omega) (by omega)) (m 39 (by omega) (by omega) (by omega) (by omega) (by omega) (by omega)) (m 42 (by omega) (by omega) (by omega) (by omega) (by omega) (by omega)) (m 43 (by omega) (by omega) (by omega) (by omega) (by omega) (by omega)) (m 44 (by omega) (by omega) (by omega) (by omega) (by omega) (by omega)) (m 53 (by omega) (by omega) (by omega) (by omega) (by omega) (by omega)) (m 54 (by omega) (by omega) (by omega) (by omega) (by omega) (by omega)) (m 55 (by omega) (by omega) (by omega) (by omega) (by omega) (by omega)) (m 35 (by omega) (by omega) (by omega) (by omega) (by omega) (by omega)) (c 29) (c 46), hi.2.2.2.2.2.2.2.2.2.mono (m 20 (by omega) (by omega) (by omega) (by omega) (by omega) (by omega)) (c 1) (c 4)⟩
        · intro x2 hx2
          obtain ⟨⟨i1, i2⟩, i3, i4⟩ := hi.2.1 x2 hx2
          rw [← hM2]
          by_cases q : x2 = s
          · subst q
            simp only [mAst_2, Nat.reduceEqDiff, true_and, false_and, and_true, if_true, if_false, true_or, or_true]
            exact ⟨i1, i2⟩
          · simp only [mAst_2, Nat.reduceEqDiff, true_and, false_and, and_true, if_true, if_false, q]
            exact ⟨⟨i1, i2⟩, i3, i4⟩
      have hE : RR W9 B (d 9 0) S2 M2 := by
        have hw : ways M2 (nBt (mSet M 0 0)) = ways (mSet M 0 0) (nBt (mSet M 0 0)) := ways_same _ (fun v _ => way_of (by rw [m 34 (by omega) (by omega) (by omega) (by omega) (by omega) (by omega)]) (by rw [m 37 (by omega) (by omega) (by omega) (by omega) (by omega) (by omega)]) (by rw [m 33 (by omega) (by omega) (by omega) (by omega) (by omega) (by omega)]) (by rw [m 35 (by omega) (by omega) (by omega) (by omega) (by omega) (by omega)]))
        exact ⟨d, np, N, (RRd_step h0d hR2 hi2 hw hch (hX 9 2 (by omega)) (fun i => hX 11 i (by omega)) (fun i => hX 12 i (by omega)) (c 22 ) (c 29 ) (m 27 (by omega) (by omega) (by omega) (by omega) (by omega) (by omega)) (m 28 (by omega) (by omega) (by omega) (by omega) (by omega) (by omega)) (m 33 (by omega) (by omega) (by omega) (by omega) (by omega) (by omega)) (m 34 (by omega) (by omega) (by omega) (by omega) (by omega) (by omega))).1⟩
      have hE0 : M2.1 0 = 0 := by rw [← hM2]; first | rfl | simp [mAst_1, mSet_1]
      exact hk _ _ (ansV_1 hE (by rw [ho', hM2]) hE0)

theorem Q_dredge {W9 : xWd} {B a : Nat} {S : cS} {M : mS} {k : Int32} {y : Int32} {K : xRes → cS → Prop} (h : RR W9 B a S M) (hk : ∀ r S2, ans [eB, eA, eS] W9 B a (oDredge M k y) r S2 → K r S2) : (spX7_dredge W9).2 [.ref a, .int k, .int y] S K := by
  have h0 := RR_set0 (z := 0) h
  have h00 := h0
  obtain ⟨d, np, N, h0d⟩ := h00
  have h0e := h0d
  obtain ⟨hd, rfl, hi, hR, hp, hl, hN, hB⟩ := h0e
  have g0 := hR.2.2.2.2.2.2.2.2.1.1
  obtain ⟨g7, g8, g9, g10, g11, g12, g13⟩ := hR.2.2.2.2.2.2.2.2.1.2.2
  have e29 : M.1 29 = nI (nBt M) := hi.1.1.1
  have e22 : M.1 22 = nI (nBg M) := hi.1.2.1.1
  have e46 : M.1 46 = nI (nCo M) := hi.1.2.2.1
  have b29 : nBt M ≤ 6 := hi.1.1.2
  have b22 : nBg M ≤ 24 := hi.1.2.1.2
  have b46 : nCo M ≤ 12 := hi.1.2.2.2
  have n29 : nBt (mSet M 0 0) = nBt M := rfl
  have n22 : nBg (mSet M 0 0) = nBg M := rfl
  have n46 : nCo (mSet M 0 0) = nCo M := rfl
  obtain ⟨f1, f2, f3, f4, f5, f6⟩ := R0_list hR
  have f5 : cFi S (d 6 0) 2 = nI 7 := f5
  rw [spwX7_dredge, f2, f5]
  refine ⟨g0, ⟨f1, f3⟩, fun v => hk _ _ (ans_e h (z := 1) ?_ (by decide) rfl), fun v => ?_⟩
  · unfold oDredge
    rw [if_pos (by rw [idx6]; exact v)]
  · have y0 : (0 ≤ k ∧ k ≤ 6) := by rw [idx6]; exact v
    rw [idx (by omega)] at v
    obtain ⟨s, hs, rfl⟩ := v
    have e601 := (hR.1 s hs).2.2.1
    have e601 : cFi S (d 0 s) 601 = M.2 6 s := e601
    rw [ix_nI (show s < 1000 by omega), f6 s hs, e601]
    have ho' : oDredge M (nI s) y = if ¬ (1 ≤ y ∧ y ≤ 20) then (0, mSet M 0 2) else if 99 < M.2 6 s + y then (0, mSet M 0 3) else (M.2 6 s + y, mAst (mSet M 0 0) 6 s (M.2 6 s + y)) := by
      unfold oDredge
      rw [if_neg (not_not_intro y0), ix_nI (show s < 1000 by omega)]
    refine ⟨fun q => hk _ _ (ans_e h (z := 2) ?_ (by decide) rfl), fun y2 => ⟨fun q => hk _ _ (ans_e h (z := 3) ?_ (by decide) rfl), fun q => ?_⟩⟩
    · rw [ho', if_pos q]
    · rw [ho', if_neg (not_not_intro y2), if_pos (Int32.not_le.mp q)]
    · rw [if_neg (not_not_intro y2), if_neg (Int32.not_lt.mpr q)] at ho'
      generalize hM2 : mAst (mSet M 0 0) 6 s (M.2 6 s + y) = M2
      have m : ∀ k, k ≠ 6 → M2.2 k = (mSet M 0 0).2 k := by
        intro k a0
        rw [← hM2]
        first | rfl | (simp only [mAst_2]; funext n; repeat rw [if_neg (fun z => by omega)]) | (funext n; simp only [mAst_2, mSet_2]; repeat rw [if_neg (fun z => by omega)])
      have c : ∀ k, M2.1 k = (mSet M 0 0).1 k := by
        intro k 
        rw [← hM2]
        first | rfl | (simp only [mAst_1, mSet_1]; repeat rw [if_neg (by omega)]) | (repeat rw [mSet_ne (by omega)]; rfl) | (repeat rw [mSet_ne (by omega)])
      generalize hS2 : cSetI S (d 0 s) 601 (M.2 6 s + y) = S2
      have hch : chg S S2 (fun b => b = d 0 s) := by
        rw [← hS2]
        exact (chg.sI (X := (fun b => b = d 0 s)) (chg.rf (X := (fun b => b = d 0 s))) rfl)
      have hX : ∀ (k i : Nat), ¬ (k = 0 ∧ i = s) → ¬ (fun b => b = d 0 s) (d k i) := fun k i z y => z (hd _ _ _ _ y)
      have hL : ∀ k i, isL (mSet M 0 0) k i → ¬ (fun b => b = d 0 s) (d k i) := fun k i z => hX k i (by rcases z with ⟨rfl, _⟩ | ⟨rfl, _⟩ | ⟨rfl, _⟩ <;> omega)
      have hR2 : R0 W9 d S2 M2 := by
        refine ⟨?_, hR.2.1.mono (fun z _ => hch.sm (hX 1 z (by omega))) (m 17 (by omega)) , hR.2.2.1.mono (fun z _ => hch.sm (hX 5 z (by omega))) (m 40 (by omega)) (c 29), hR.2.2.2.1.mono (fun z _ => hch.sm (hX 2 z (by omega))) (m 23 (by omega)) (m 24 (by omega)) (m 25 (by omega)) (m 26 (by omega)) (m 27 (by omega)) (m 28 (by omega)) (c 22), hR.2.2.2.2.1.mono (fun z _ => hch.sm (hX 3 z (by omega))) (m 47 (by omega)) (m 48 (by omega)) (m 49 (by omega)) (m 50 (by omega)) (m 51 (by omega)) (m 52 (by omega)) (m 53 (by omega)) (m 54 (by omega)) (m 55 (by omega)) (m 24 (by omega)) (m 25 (by omega)) (c 46) (c 22), hR.2.2.2.2.2.1.mono (fun z _ => hch.sm (hX 4 z (by omega))) (m 30 (by omega)) (m 31 (by omega)) (m 32 (by omega)) (m 33 (by omega)) (m 34 (by omega)) (m 35 (by omega)) (m 36 (by omega)) (m 37 (by omega)) (m 38 (by omega)) (m 39 (by omega)) (m 43 (by omega)) (c 29), hR.2.2.2.2.2.2.1.mono (fun z _ => hch.sm (hX 4 z (by omega))) (m 45 (by omega)) (c 29), hR.2.2.2.2.2.2.2.1.mono (fun z _ => hch.sm (hX 10 z (by omega))) (m 44 (by omega)) (c 29), hR.2.2.2.2.2.2.2.2.1.mono (hch.sm (hX 9 0 (by omega)))  (c 1) (c 2) (c 3) (c 4) (c 56) (c 57) (c 58), hR.2.2.2.2.2.2.2.2.2.1.mono (hch.sm (hX 9 1 (by omega))) (m 20 (by omega)) (m 21 (by omega)) (c 1), hR.2.2.2.2.2.2.2.2.2.2.mono (fun k i z hc => hch.lst (hL k i z) hc) (m 18 (by omega)) (m 19 (by omega)) (m 41 (by omega)) (m 42 (by omega)) (c 22) (c 29) (c 46)⟩
        · intro x hx
          obtain ⟨h0, h600, h601, h602, h603, h604, h605, h606, h607, h608, h609, h610, h611, h612⟩ := hR.1 x hx
          have ed : (d 0 x = d 0 s) = (x = s) := propext ⟨fun y => (hd _ _ _ _ y).2, fun y => by rw [y]⟩
          refine ⟨(hch.2.2.1 _).trans h0, ?_⟩
          rw [← hS2, ← hM2]
          by_cases q : x = s
          · subst q
            simp only [cFi_setI, cFr_setI, cFi_setR, cFr_setR, cFi_ast, cFr_ast, cRi_ast, cRi_setI, cRi_setR, mAst_2, mSet_1, eq_self, Nat.reduceEqDiff, and_false, false_and, and_true, true_and, and_self, if_true, if_false, not_true_eq_false, not_false_eq_true, false_implies, true_implies, implies_true, ed]
            exact ⟨h600, h602, h603, h604, h605, h606, h607, h608, h609, h610, h611, h612⟩
          · simp only [cFi_setI, cFr_setI, cFi_setR, cFr_setR, cFi_ast, cFr_ast, cRi_ast, cRi_setI, cRi_setR, mAst_2, mSet_1, eq_self, Nat.reduceEqDiff, and_false, false_and, and_true, true_and, and_self, if_true, if_false, not_true_eq_false, not_false_eq_true, false_implies, true_implies, implies_true, ed, q]
            exact ⟨h600, h601, h602, h603, h604, h605, h606, h607, h608, h609, h610, h611, h612⟩
      have hi2 : iAll M2 := by
        refine ⟨hi.1.mono  (c 29) (c 22) (c 46), hi.2.1.mono (m 9 (by omega)) (m 7 (by omega)) (m 5 (by omega)) (m 15 (by omega)) , hi.2.2.1.mono (m 18 (by omega)) (m 17 (by omega)) (m 19 (by omega)) (m 28 (by omega)) (m 27 (by omega)) (c 22), hi.2.2.2.1.mono (m 42 (by omega)) (m 40 (by omega)) (m 41 (by omega)) (m 28 (by omega)) (c 29) (c 22), hi.2.2.2.2.1.mono (m 28 (by omega)) (m 27 (by omega)) (m 18 (by omega)) (m 19 (by omega)) (m 42 (by omega)) (m 41 (by omega)) (m 24 (by omega)) (m 25 (by omega)) (m 23 (by omega)) (c 22) (c 29) (c 46), hi.2.2.2.2.2.1.mono (m 47 (by omega)) (m 48 (by omega)) (m 49 (by omega)) (m 51 (by omega)) (c 46), hi.2.2.2.2.2.2.1.mono (m 37 (by omega)) (m 35 (by omega)) (m 34 (by omega)) (m 33 (by omega)) (m 36 (by omega)) (c 29), hi.2.2.2.2.2.2.2.1.mono (m 45 (by omega)) (c 29), hi.2.2.2.2.2.2.2.2.1.mono (m 32 (by omega)) (m 39 (by omega)) (m 42 (by omega)) (m 43 (by omega)) (m 44 (by omega)) (m 53 (by omega)) (m 54 (by omega)) (m 55 (by omega)) (m 35 (by omega)) (c 29) (c 46), hi.2.2.2.2.2.2.2.2.2.mono (m 20 (by omega)) (c 1) (c 4)⟩
      have hE : RR W9 B (d 9 0) S2 M2 := by
        have hw : ways M2 (nBt (mSet M 0 0)) = ways (mSet M 0 0) (nBt (mSet M 0 0)) := ways_same _ (fun v _ => way_of (by rw [m 34 (by omega)]) (by rw [m 37 (by omega)]) (by rw [m 33 (by omega)]) (by rw [m 35 (by omega)]))
        exact ⟨d, np, N, (RRd_step h0d hR2 hi2 hw hch (hX 9 2 (by omega)) (fun i => hX 11 i (by omega)) (fun i => hX 12 i (by omega)) (c 22 ) (c 29 ) (m 27 (by omega)) (m 28 (by omega)) (m 33 (by omega)) (m 34 (by omega))).1⟩
      have hE0 : M2.1 0 = 0 := by rw [← hM2]; first | rfl | simp [mAst_1, mSet_1]
      exact hk _ _ (ans_1 hE (by rw [ho', hM2]) hE0 rfl)

theorem Q_weather {W9 : xWd} {B a : Nat} {S : cS} {M : mS} {k : Int32} {ic : Int32} {z : Int32} {K : xRes → cS → Prop} (h : RR W9 B a S M) (hz : z = 0 ∨ z = 1) (hk : ∀ r S2, ans [eB, eA] W9 B a (oWeather M k ic z) r S2 → K r S2) : (spX7_weather W9).2 [.ref a, .int k, .int ic, .int z] S K := by
  have h0 := RR_set0 (z := 0) h
  have h00 := h0
  obtain ⟨d, np, N, h0d⟩ := h00
  have h0e := h0d
  obtain ⟨hd, rfl, hi, hR, hp, hl, hN, hB⟩ := h0e
  have g0 := hR.2.2.2.2.2.2.2.2.1.1
  obtain ⟨g7, g8, g9, g10, g11, g12, g13⟩ := hR.2.2.2.2.2.2.2.2.1.2.2
  have e29 : M.1 29 = nI (nBt M) := hi.1.1.1
  have e22 : M.1 22 = nI (nBg M) := hi.1.2.1.1
  have e46 : M.1 46 = nI (nCo M) := hi.1.2.2.1
  have b29 : nBt M ≤ 6 := hi.1.1.2
  have b22 : nBg M ≤ 24 := hi.1.2.1.2
  have b46 : nCo M ≤ 12 := hi.1.2.2.2
  have n29 : nBt (mSet M 0 0) = nBt M := rfl
  have n22 : nBg (mSet M 0 0) = nBg M := rfl
  have n46 : nCo (mSet M 0 0) = nCo M := rfl
  obtain ⟨f1, f2, f3, f4, f5, f6⟩ := R0_list hR
  have f5 : cFi S (d 6 0) 2 = nI 7 := f5
  rw [spwX7_weather, f2, f5]
  refine ⟨hz, g0, ⟨f1, f3⟩, fun v => hk _ _ (ans_e h (z := 1) ?_ (by decide) rfl), fun v => ?_⟩
  · unfold oWeather
    rw [if_pos (by rw [idx6]; exact v)]
  · have y0 : (0 ≤ k ∧ k ≤ 6) := by rw [idx6]; exact v
    rw [idx (by omega)] at v
    obtain ⟨s, hs, rfl⟩ := v
    have e602 := (hR.1 s hs).2.2.2.1
    have e602 : cFi S (d 0 s) 602 = M.2 7 s := e602
    rw [ix_nI (show s < 1000 by omega), f6 s hs, e602]
    have ho' : oWeather M (nI s) ic z = if 0 ≤ ic ∧ ic ≤ 3 then (M.2 7 s, mAst (mAst (mSet M 0 0) 7 s ic) 8 s z) else (0, mSet M 0 2) := by
      unfold oWeather
      rw [if_neg (not_not_intro y0), ix_nI (show s < 1000 by omega)]
    refine ⟨fun q => hk _ _ (ans_e h (z := 2) ?_ (by decide) rfl), fun q => ?_⟩
    · rw [ho', if_neg q]
    · rw [if_pos q] at ho'
      generalize hM2 : mAst (mAst (mSet M 0 0) 7 s ic) 8 s z = M2
      have m : ∀ k, k ≠ 7 → k ≠ 8 → M2.2 k = (mSet M 0 0).2 k := by
        intro k a0 a1
        rw [← hM2]
        first | rfl | (simp only [mAst_2]; funext n; repeat rw [if_neg (fun z => by omega)]) | (funext n; simp only [mAst_2, mSet_2]; repeat rw [if_neg (fun z => by omega)])
      have c : ∀ k, M2.1 k = (mSet M 0 0).1 k := by
        intro k 
        rw [← hM2]
        first | rfl | (simp only [mAst_1, mSet_1]; repeat rw [if_neg (by omega)]) | (repeat rw [mSet_ne (by omega)]; rfl) | (repeat rw [mSet_ne (by omega)])
      generalize hS2 : cSetI (cSetI S (d 0 s) 602 ic) (d 0 s) 603 z = S2
      have hch : chg S S2 (fun b => b = d 0 s) := by
        rw [← hS2]
        exact (chg.sI (X := (fun b => b = d 0 s)) (chg.sI (X := (fun b => b = d 0 s)) (chg.rf (X := (fun b => b = d 0 s))) rfl) rfl)
      have hX : ∀ (k i : Nat), ¬ (k = 0 ∧ i = s) → ¬ (fun b => b = d 0 s) (d k i) := fun k i z y => z (hd _ _ _ _ y)
      have hL : ∀ k i, isL (mSet M 0 0) k i → ¬ (fun b => b = d 0 s) (d k i) := fun k i z => hX k i (by rcases z with ⟨rfl, _⟩ | ⟨rfl, _⟩ | ⟨rfl, _⟩ <;> omega)
      have hR2 : R0 W9 d S2 M2 := by
        refine ⟨?_, hR.2.1.mono (fun z _ => hch.sm (hX 1 z (by omega))) (m 17 (by omega) (by omega)) , hR.2.2.1.mono (fun z _ => hch.sm (hX 5 z (by omega))) (m 40 (by omega) (by omega)) (c 29), hR.2.2.2.1.mono (fun z _ => hch.sm (hX 2 z (by omega))) (m 23 (by omega) (by omega)) (m 24 (by omega) (by omega)) (m 25 (by omega) (by omega)) (m 26 (by omega) (by omega)) (m 27 (by omega) (by omega)) (m 28 (by omega) (by omega)) (c 22), hR.2.2.2.2.1.mono (fun z _ => hch.sm (hX 3 z (by omega))) (m 47 (by omega) (by omega)) (m 48 (by omega) (by omega)) (m 49 (by omega) (by omega)) (m 50 (by omega) (by omega)) (m 51 (by omega) (by omega)) (m 52 (by omega) (by omega)) (m 53 (by omega) (by omega)) (m 54 (by omega) (by omega)) (m 55 (by omega) (by omega)) (m 24 (by omega) (by omega)) (m 25 (by omega) (by omega)) (c 46) (c 22), hR.2.2.2.2.2.1.mono (fun z _ => hch.sm (hX 4 z (by omega))) (m 30 (by omega) (by omega)) (m 31 (by omega) (by omega)) (m 32 (by omega) (by omega)) (m 33 (by omega) (by omega)) (m 34 (by omega) (by omega)) (m 35 (by omega) (by omega)) (m 36 (by omega) (by omega)) (m 37 (by omega) (by omega)) (m 38 (by omega) (by omega)) (m 39 (by omega) (by omega)) (m 43 (by omega) (by omega)) (c 29), hR.2.2.2.2.2.2.1.mono (fun z _ => hch.sm (hX 4 z (by omega))) (m 45 (by omega) (by omega)) (c 29), hR.2.2.2.2.2.2.2.1.mono (fun z _ => hch.sm (hX 10 z (by omega))) (m 44 (by omega) (by omega)) (c 29), hR.2.2.2.2.2.2.2.2.1.mono (hch.sm (hX 9 0 (by omega)))  (c 1) (c 2) (c 3) (c 4) (c 56) (c 57) (c 58), hR.2.2.2.2.2.2.2.2.2.1.mono (hch.sm (hX 9 1 (by omega))) (m 20 (by omega) (by omega)) (m 21 (by omega) (by omega)) (c 1), hR.2.2.2.2.2.2.2.2.2.2.mono (fun k i z hc => hch.lst (hL k i z) hc) (m 18 (by omega) (by omega)) (m 19 (by omega) (by omega)) (m 41 (by omega) (by omega)) (m 42 (by omega) (by omega)) (c 22) (c 29) (c 46)⟩
        · intro x hx
          obtain ⟨h0, h600, h601, h602, h603, h604, h605, h606, h607, h608, h609, h610, h611, h612⟩ := hR.1 x hx
          have ed : (d 0 x = d 0 s) = (x = s) := propext ⟨fun y => (hd _ _ _ _ y).2, fun y => by rw [y]⟩
          refine ⟨(hch.2.2.1 _).trans h0, ?_⟩
          rw [← hS2, ← hM2]
          by_cases q : x = s
          · subst q
            simp only [cFi_setI, cFr_setI, cFi_setR, cFr_setR, cFi_ast, cFr_ast, cRi_ast, cRi_setI, cRi_setR, mAst_2, mSet_1, eq_self, Nat.reduceEqDiff, and_false, false_and, and_true, true_and, and_self, if_true, if_false, not_true_eq_false, not_false_eq_true, false_implies, true_implies, implies_true, ed]
            exact ⟨h600, h601, h604, h605, h606, h607, h608, h609, h610, h611, h612⟩
          · simp only [cFi_setI, cFr_setI, cFi_setR, cFr_setR, cFi_ast, cFr_ast, cRi_ast, cRi_setI, cRi_setR, mAst_2, mSet_1, eq_self, Nat.reduceEqDiff, and_false, false_and, and_true, true_and, and_self, if_true, if_false, not_true_eq_false, not_false_eq_true, false_implies, true_implies, implies_true, ed, q]
            exact ⟨h600, h601, h602, h603, h604, h605, h606, h607, h608, h609, h610, h611, h612⟩
      have hi2 : iAll M2 := by
        refine ⟨hi.1.mono  (c 29) (c 22) (c 46), ?_, hi.2.2.1.mono (m 18 (by omega) (by omega)) (m 17 (by omega) (by omega)) (m 19 (by omega) (by omega)) (m 28 (by omega) (by omega)) (m 27 (by omega) (by omega)) (c 22), hi.2.2.2.1.mono (m 42 (by omega) (by omega)) (m 40 (by omega) (by omega)) (m 41 (by omega) (by omega)) (m 28 (by omega) (by omega)) (c 29) (c 22), hi.2.2.2.2.1.mono (m 28 (by omega) (by omega)) (m 27 (by omega) (by omega)) (m 18 (by omega) (by omega)) (m 19 (by omega) (by omega)) (m 42 (by omega) (by omega)) (m 41 (by omega) (by omega)) (m 24 (by omega) (by omega)) (m 25 (by omega) (by omega)) (m 23 (by omega) (by omega)) (c 22) (c 29) (c 46), hi.2.2.2.2.2.1.mono (m 47 (by omega) (by omega)) (m 48 (by omega) (by omega)) (m 49 (by omega) (by omega)) (m 51 (by omega) (by omega)) (c 46), hi.2.2.2.2.2.2.1.mono (m 37 (by omega) (by omega)) (m 35 (by omega) (by omega)) (m 34 (by omega) (by omega)) (m 33 (by omega) (by omega)) (m 36 (by omega) (by omega)) (c 29), hi.2.2.2.2.2.2.2.1.mono (m 45 (by omega) (by omega)) (c 29), hi.2.2.2.2.2.2.2.2.1.mono (m 32 (by omega) (by omega)) (m 39 (by omega) (by omega)) (m 42 (by omega) (by omega)) (m 43 (by omega) (by omega)) (m 44 (by omega) (by omega)) (m 53 (by omega) (by omega)) (m 54 (by omega) (by omega)) (m 55 (by omega) (by omega)) (m 35 (by omega) (by omega)) (c 29) (c 46), hi.2.2.2.2.2.2.2.2.2.mono (m 20 (by omega) (by omega)) (c 1) (c 4)⟩
        · intro x2 hx2
          obtain ⟨⟨i1, i2⟩, i3, i4⟩ := hi.2.1 x2 hx2
          rw [← hM2]
          by_cases q2 : x2 = s
          · subst q2
            simp only [mAst_2, Nat.reduceEqDiff, true_and, false_and, and_true, if_true, if_false, true_or, or_true]
            exact ⟨⟨i1, q.1, q.2⟩, i3, i4⟩
          · simp only [mAst_2, Nat.reduceEqDiff, true_and, false_and, and_true, if_true, if_false, q2]
            exact ⟨⟨i1, i2⟩, i3, i4⟩
      have hE : RR W9 B (d 9 0) S2 M2 := by
        have hw : ways M2 (nBt (mSet M 0 0)) = ways (mSet M 0 0) (nBt (mSet M 0 0)) := ways_same _ (fun v _ => way_of (by rw [m 34 (by omega) (by omega)]) (by rw [m 37 (by omega) (by omega)]) (by rw [m 33 (by omega) (by omega)]) (by rw [m 35 (by omega) (by omega)]))
        exact ⟨d, np, N, (RRd_step h0d hR2 hi2 hw hch (hX 9 2 (by omega)) (fun i => hX 11 i (by omega)) (fun i => hX 12 i (by omega)) (c 22 ) (c 29 ) (m 27 (by omega) (by omega)) (m 28 (by omega) (by omega)) (m 33 (by omega) (by omega)) (m 34 (by omega) (by omega))).1⟩
      have hE0 : M2.1 0 = 0 := by rw [← hM2]; first | rfl | simp [mAst_1, mSet_1]
      exact hk _ _ (ans_1 hE (by rw [ho', hM2]) hE0 rfl)

theorem Q_stage {W9 : xWd} {B a : Nat} {S : cS} {M : mS} {v : Int32} {f : Int32} {K : xRes → cS → Prop} (h : RR W9 B a S M) (hk : ∀ r S2, ans [eA] W9 B a (oStage M v f) r S2 → K r S2) : (spX7_stage W9).2 [.ref a, .int v, .int f] S K := by
  have h0 := RR_set0 (z := 0) h
  have h00 := h0
  obtain ⟨d, np, N, h0d⟩ := h00
  have h0e := h0d
  obtain ⟨hd, rfl, hi, hR, hp, hl, hN, hB⟩ := h0e
  have g0 := hR.2.2.2.2.2.2.2.2.1.1
  obtain ⟨g7, g8, g9, g10, g11, g12, g13⟩ := hR.2.2.2.2.2.2.2.2.1.2.2
  have e29 : M.1 29 = nI (nBt M) := hi.1.1.1
  have e22 : M.1 22 = nI (nBg M) := hi.1.2.1.1
  have e46 : M.1 46 = nI (nCo M) := hi.1.2.2.1
  have b29 : nBt M ≤ 6 := hi.1.1.2
  have b22 : nBg M ≤ 24 := hi.1.2.1.2
  have b46 : nCo M ≤ 12 := hi.1.2.2.2
  have n29 : nBt (mSet M 0 0) = nBt M := rfl
  have n22 : nBg (mSet M 0 0) = nBg M := rfl
  have n46 : nCo (mSet M 0 0) = nCo M := rfl
  have e808 : cFi S (d 9 0) 808 = M.1 2 := g8
  rw [spwX7_stage, e808]
  have hT0 := True.intro
  refine ⟨g0, fun q => hk _ _ (ans_e h (z := 1) ?_ (by decide) rfl), fun q => ?_⟩
  · unfold oStage
    rw [if_neg q]
  · have ho' : oStage M v f = (M.1 2, mSet (mSet (mSet M 0 0) 2 v) 3 f) := by
      unfold oStage
      rw [if_pos q]
    generalize hM2 : mSet (mSet (mSet M 0 0) 2 v) 3 f = M2
    have m : ∀ k, M2.2 k = (mSet M 0 0).2 k := by
      intro k 
      rw [← hM2]
      first | rfl | (simp only [mAst_2]; funext n; repeat rw [if_neg (fun z => by omega)]) | (funext n; simp only [mAst_2, mSet_2]; repeat rw [if_neg (fun z => by omega)])
    have c : ∀ k, k ≠ 2 → k ≠ 3 → M2.1 k = (mSet M 0 0).1 k := by
      intro k a0 a1
      rw [← hM2]
      first | rfl | (simp only [mAst_1, mSet_1]; repeat rw [if_neg (by omega)]) | (repeat rw [mSet_ne (by omega)]; rfl) | (repeat rw [mSet_ne (by omega)])
    generalize hS2 : cSetI (cSetI S (d 9 0) 808 v) (d 9 0) 809 f = S2
    have hch : chg S S2 (fun b => b = d 9 0) := by
      rw [← hS2]
      exact (chg.sI (X := (fun b => b = d 9 0)) (chg.sI (X := (fun b => b = d 9 0)) (chg.rf (X := (fun b => b = d 9 0))) rfl) rfl)
    have hX : ∀ (k i : Nat), ¬ (k = 9 ∧ i = 0) → ¬ (fun b => b = d 9 0) (d k i) := fun k i z y => z (hd _ _ _ _ y)
    have hL : ∀ k i, isL (mSet M 0 0) k i → ¬ (fun b => b = d 9 0) (d k i) := fun k i z => hX k i (by rcases z with ⟨rfl, _⟩ | ⟨rfl, _⟩ | ⟨rfl, _⟩ <;> omega)
    have hR2 : R0 W9 d S2 M2 := by
      refine ⟨hR.1.mono (fun z _ => hch.sm (hX 0 z (by omega))) (m 5) (m 6) (m 7) (m 8) (m 9) (m 10) (m 11) (m 12) (m 13) (m 14) (m 15) (m 16) , hR.2.1.mono (fun z _ => hch.sm (hX 1 z (by omega))) (m 17) , hR.2.2.1.mono (fun z _ => hch.sm (hX 5 z (by omega))) (m 40) (c 29 (by omega) (by omega)), hR.2.2.2.1.mono (fun z _ => hch.sm (hX 2 z (by omega))) (m 23) (m 24) (m 25) (m 26) (m 27) (m 28) (c 22 (by omega) (by omega)), hR.2.2.2.2.1.mono (fun z _ => hch.sm (hX 3 z (by omega))) (m 47) (m 48) (m 49) (m 50) (m 51) (m 52) (m 53) (m 54) (m 55) (m 24) (m 25) (c 46 (by omega) (by omega)) (c 22 (by omega) (by omega)), hR.2.2.2.2.2.1.mono (fun z _ => hch.sm (hX 4 z (by omega))) (m 30) (m 31) (m 32) (m 33) (m 34) (m 35) (m 36) (m 37) (m 38) (m 39) (m 43) (c 29 (by omega) (by omega)), hR.2.2.2.2.2.2.1.mono (fun z _ => hch.sm (hX 4 z (by omega))) (m 45) (c 29 (by omega) (by omega)), hR.2.2.2.2.2.2.2.1.mono (fun z _ => hch.sm (hX 10 z (by omega))) (m 44) (c 29 (by omega) (by omega)), ?_, hR.2.2.2.2.2.2.2.2.2.1.mono (hch.sm (hX 9 1 (by omega))) (m 20) (m 21) (c 1 (by omega) (by omega)), hR.2.2.2.2.2.2.2.2.2.2.mono (fun k i z hc => hch.lst (hL k i z) hc) (m 18) (m 19) (m 41) (m 42) (c 22 (by omega) (by omega)) (c 29 (by omega) (by omega)) (c 46 (by omega) (by omega))⟩
      · obtain ⟨a0, a1, a807, a808, a809, a810, a811, a812, a813⟩ := hR.2.2.2.2.2.2.2.2.1
        refine ⟨(hch.2.2.1 _).trans a0, by rw [← hS2]; exact a1, ?_⟩
        rw [← hS2, ← hM2]
        simp only [cFi_setI, cFr_setI, cFi_setR, cFr_setR, cFi_ast, cFr_ast, cRi_ast, cRi_setI, cRi_setR, mAst_2, mSet_1, eq_self, Nat.reduceEqDiff, and_false, false_and, and_true, true_and, and_self, if_true, if_false, not_true_eq_false, not_false_eq_true, false_implies, true_implies, implies_true, hT0]
        exact ⟨a807, a810, a811, a812, a813⟩
    have hi2 : iAll M2 := by
      refine ⟨hi.1.mono  (c 29 (by omega) (by omega)) (c 22 (by omega) (by omega)) (c 46 (by omega) (by omega)), hi.2.1.mono (m 9) (m 7) (m 5) (m 15) , hi.2.2.1.mono (m 18) (m 17) (m 19) (m 28) (m 27) (c 22 (by omega) (by omega)), hi.2.2.2.1.mono (m 42) (m 40) (m 41) (m 28) (c 29 (by omega) (by omega)) (c 22 (by omega) (by omega)), hi.2.2.2.2.1.mono (m 28) (m 27) (m 18) (m 19) (m 42) (m 41) (m 24) (m 25) (m 23) (c 22 (by omega) (by omega)) (c 29 (by omega) (by omega)) (c 46 (by omega) (by omega)), hi.2.2.2.2.2.1.mono (m 47) (m 48) (m 49) (m 51) (c 46 (by omega) (by omega)), hi.2.2.2.2.2.2.1.mono (m 37) (m 35) (m 34) (m 33) (m 36) (c 29 (by omega) (by omega)), hi.2.2.2.2.2.2.2.1.mono (m 45) (c 29 (by omega) (by omega)), hi.2.2.2.2.2.2.2.2.1.mono (m 32) (m 39) (m 42) (m 43) (m 44) (m 53) (m 54) (m 55) (m 35) (c 29 (by omega) (by omega)) (c 46 (by omega) (by omega)), hi.2.2.2.2.2.2.2.2.2.mono (m 20) (c 1 (by omega) (by omega)) (c 4 (by omega) (by omega))⟩
    have hE : RR W9 B (d 9 0) S2 M2 := by
      have hw : ways M2 (nBt (mSet M 0 0)) = ways (mSet M 0 0) (nBt (mSet M 0 0)) := ways_same _ (fun v _ => way_of (by rw [m 34 ]) (by rw [m 37 ]) (by rw [m 33 ]) (by rw [m 35 ]))
      exact ⟨d, np, N, (RRd_step h0d hR2 hi2 hw hch (hX 9 2 (by omega)) (fun i => hX 11 i (by omega)) (fun i => hX 12 i (by omega)) (c 22 (by omega) (by omega)) (c 29 (by omega) (by omega)) (m 27 ) (m 28 ) (m 33 ) (m 34 )).1⟩
    have hE0 : M2.1 0 = 0 := by rw [← hM2]; first | rfl | simp [mAst_1, mSet_1]
    exact hk _ _ (ans_1 hE (by rw [ho', hM2]) hE0 rfl)

theorem Q_fog {W9 : xWd} {B a : Nat} {S : cS} {M : mS} {z : Int32} {K : xRes → cS → Prop} (h : RR W9 B a S M) (hz : z = 0 ∨ z = 1) (hk : ∀ r S2, ans [eA] W9 B a (oFog M z) r S2 → K r S2) : (spX7_fog W9).2 [.ref a, .int z] S K := by
  have h0 := RR_set0 (z := 0) h
  have h00 := h0
  obtain ⟨d, np, N, h0d⟩ := h00
  have h0e := h0d
  obtain ⟨hd, rfl, hi, hR, hp, hl, hN, hB⟩ := h0e
  have g0 := hR.2.2.2.2.2.2.2.2.1.1
  obtain ⟨g7, g8, g9, g10, g11, g12, g13⟩ := hR.2.2.2.2.2.2.2.2.1.2.2
  have e29 : M.1 29 = nI (nBt M) := hi.1.1.1
  have e22 : M.1 22 = nI (nBg M) := hi.1.2.1.1
  have e46 : M.1 46 = nI (nCo M) := hi.1.2.2.1
  have b29 : nBt M ≤ 6 := hi.1.1.2
  have b22 : nBg M ≤ 24 := hi.1.2.1.2
  have b46 : nCo M ≤ 12 := hi.1.2.2.2
  have n29 : nBt (mSet M 0 0) = nBt M := rfl
  have n22 : nBg (mSet M 0 0) = nBg M := rfl
  have n46 : nCo (mSet M 0 0) = nCo M := rfl
  have e810 : cFi S (d 9 0) 810 = M.1 4 := g10
  rw [spwX7_fog, e810]
  have hT0 := True.intro
  have hT := hi.2.2.2.2.2.2.2.2.2
  refine ⟨hz, g0, hT.2.1, ?_⟩
  have ho' : oFog M z = (M.1 4, mSet (mSet M 0 0) 4 z) := rfl
  generalize hM2 : mSet (mSet M 0 0) 4 z = M2
  have m : ∀ k, M2.2 k = (mSet M 0 0).2 k := by
    intro k 
    rw [← hM2]
    first | rfl | (simp only [mAst_2]; funext n; repeat rw [if_neg (fun z => by omega)]) | (funext n; simp only [mAst_2, mSet_2]; repeat rw [if_neg (fun z => by omega)])
  have c : ∀ k, k ≠ 4 → M2.1 k = (mSet M 0 0).1 k := by
    intro k a0
    rw [← hM2]
    first | rfl | (simp only [mAst_1, mSet_1]; repeat rw [if_neg (by omega)]) | (repeat rw [mSet_ne (by omega)]; rfl) | (repeat rw [mSet_ne (by omega)])
  generalize hS2 : cSetI S (d 9 0) 810 z = S2
  have hch : chg S S2 (fun b => b = d 9 0) := by
    rw [← hS2]
    exact (chg.sI (X := (fun b => b = d 9 0)) (chg.rf (X := (fun b => b = d 9 0))) rfl)
  have hX : ∀ (k i : Nat), ¬ (k = 9 ∧ i = 0) → ¬ (fun b => b = d 9 0) (d k i) := fun k i z y => z (hd _ _ _ _ y)
  have hL : ∀ k i, isL (mSet M 0 0) k i → ¬ (fun b => b = d 9 0) (d k i) := fun k i z => hX k i (by rcases z with ⟨rfl, _⟩ | ⟨rfl, _⟩ | ⟨rfl, _⟩ <;> omega)
  have hR2 : R0 W9 d S2 M2 := by
    refine ⟨hR.1.mono (fun z _ => hch.sm (hX 0 z (by omega))) (m 5) (m 6) (m 7) (m 8) (m 9) (m 10) (m 11) (m 12) (m 13) (m 14) (m 15) (m 16) , hR.2.1.mono (fun z _ => hch.sm (hX 1 z (by omega))) (m 17) , hR.2.2.1.mono (fun z _ => hch.sm (hX 5 z (by omega))) (m 40) (c 29 (by omega)), hR.2.2.2.1.mono (fun z _ => hch.sm (hX 2 z (by omega))) (m 23) (m 24) (m 25) (m 26) (m 27) (m 28) (c 22 (by omega)), hR.2.2.2.2.1.mono (fun z _ => hch.sm (hX 3 z (by omega))) (m 47) (m 48) (m 49) (m 50) (m 51) (m 52) (m 53) (m 54) (m 55) (m 24) (m 25) (c 46 (by omega)) (c 22 (by omega)), hR.2.2.2.2.2.1.mono (fun z _ => hch.sm (hX 4 z (by omega))) (m 30) (m 31) (m 32) (m 33) (m 34) (m 35) (m 36) (m 37) (m 38) (m 39) (m 43) (c 29 (by omega)), hR.2.2.2.2.2.2.1.mono (fun z _ => hch.sm (hX 4 z (by omega))) (m 45) (c 29 (by omega)), hR.2.2.2.2.2.2.2.1.mono (fun z _ => hch.sm (hX 10 z (by omega))) (m 44) (c 29 (by omega)), ?_, hR.2.2.2.2.2.2.2.2.2.1.mono (hch.sm (hX 9 1 (by omega))) (m 20) (m 21) (c 1 (by omega)), hR.2.2.2.2.2.2.2.2.2.2.mono (fun k i z hc => hch.lst (hL k i z) hc) (m 18) (m 19) (m 41) (m 42) (c 22 (by omega)) (c 29 (by omega)) (c 46 (by omega))⟩
    · obtain ⟨a0, a1, a807, a808, a809, a810, a811, a812, a813⟩ := hR.2.2.2.2.2.2.2.2.1
      refine ⟨(hch.2.2.1 _).trans a0, by rw [← hS2]; exact a1, ?_⟩
      rw [← hS2, ← hM2]
      simp only [cFi_setI, cFr_setI, cFi_setR, cFr_setR, cFi_ast, cFr_ast, cRi_ast, cRi_setI, cRi_setR, mAst_2, mSet_1, eq_self, Nat.reduceEqDiff, and_false, false_and, and_true, true_and, and_self, if_true, if_false, not_true_eq_false, not_false_eq_true, false_implies, true_implies, implies_true, hT0]
      exact ⟨a807, a808, a809, a811, a812, a813⟩
  have hi2 : iAll M2 := by
    refine ⟨hi.1.mono  (c 29 (by omega)) (c 22 (by omega)) (c 46 (by omega)), hi.2.1.mono (m 9) (m 7) (m 5) (m 15) , hi.2.2.1.mono (m 18) (m 17) (m 19) (m 28) (m 27) (c 22 (by omega)), hi.2.2.2.1.mono (m 42) (m 40) (m 41) (m 28) (c 29 (by omega)) (c 22 (by omega)), hi.2.2.2.2.1.mono (m 28) (m 27) (m 18) (m 19) (m 42) (m 41) (m 24) (m 25) (m 23) (c 22 (by omega)) (c 29 (by omega)) (c 46 (by omega)), hi.2.2.2.2.2.1.mono (m 47) (m 48) (m 49) (m 51) (c 46 (by omega)), hi.2.2.2.2.2.2.1.mono (m 37) (m 35) (m 34) (m 33) (m 36) (c 29 (by omega)), hi.2.2.2.2.2.2.2.1.mono (m 45) (c 29 (by omega)), hi.2.2.2.2.2.2.2.2.1.mono (m 32) (m 39) (m 42) (m 43) (m 44) (m 53) (m 54) (m 55) (m 35) (c 29 (by omega)) (c 46 (by omega)), ?_⟩
    · obtain ⟨t1, t2, t3⟩ := hT
      refine ⟨by rw [c 1 (by omega)]; exact t1, by rw [← hM2, mSet_eq]; exact hz, fun p hp => by rw [m 20, c 1 (by omega)]; exact t3 p hp⟩
  have hE : RR W9 B (d 9 0) S2 M2 := by
    have hw : ways M2 (nBt (mSet M 0 0)) = ways (mSet M 0 0) (nBt (mSet M 0 0)) := ways_same _ (fun v _ => way_of (by rw [m 34 ]) (by rw [m 37 ]) (by rw [m 33 ]) (by rw [m 35 ]))
    exact ⟨d, np, N, (RRd_step h0d hR2 hi2 hw hch (hX 9 2 (by omega)) (fun i => hX 11 i (by omega)) (fun i => hX 12 i (by omega)) (c 22 (by omega)) (c 29 (by omega)) (m 27 ) (m 28 ) (m 33 ) (m 34 )).1⟩
  have hE0 : M2.1 0 = 0 := by rw [← hM2]; first | rfl | simp [mAst_1, mSet_1]
  exact hk _ _ (ans_1 hE (by rw [ho', hM2]) hE0 rfl)

