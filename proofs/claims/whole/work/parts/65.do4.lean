/-! The class's answers are the reference's: width, to clean, to go, radio. -/
theorem RR_up {W9 : xWd} {B B2 a : Nat} {S : cS} {M : mS} (h : RR W9 B a S M) (h1 : B ≤ B2) (h2 : B2 ≤ 8000) : RR W9 B2 a S M := by
  obtain ⟨d, np, N, k1, k2, k3, k4, k5, k6, k7, k8⟩ := h
  exact ⟨d, np, N, k1, k2, k3, k4, k5, k6, by omega, h2⟩
theorem RRd_step2 {W9 : xWd} {B B2 a : Nat} {d : Nat → Nat → Nat} {S S2 : cS} {M M2 : mS} {np N e : Nat} {X : Nat → Prop} (h : RRd W9 B a d S M np N) (hR : R0 W9 d S2 M2) (hi : iAll M2) (hw : ways M2 (nBt M) ≤ ways M (nBt M) + e) (hB : B + e ≤ B2) (hB2 : B2 ≤ 8000) (hch : chg S S2 X) (h9 : ¬ X (d 9 2)) (h11 : ∀ j, ¬ X (d 11 j)) (h12 : ∀ j, ¬ X (d 12 j)) (c22 : M2.1 22 = M.1 22) (c29 : M2.1 29 = M.1 29) (m27 : M2.2 27 = M.2 27) (m28 : M2.2 28 = M.2 28) (m33 : M2.2 33 = M.2 33) (m34 : M2.2 34 = M.2 34) : RRd W9 B2 a d S2 M2 np N := by
  obtain ⟨hd, ha, -, -, hp, hl, hN, hB8⟩ := h
  obtain ⟨hp1, hU1, hq1⟩ := hp.keep hch h9 h11 h12
  have n22 : nBg M2 = nBg M := by unfold nBg; rw [c22]
  have n29 : nBt M2 = nBt M := by unfold nBt; rw [c29]
  refine ⟨hd, ha, hi, hR, hp1, ⟨fun g hg => ?_, fun w hw => ?_⟩, by rw [n29]; omega, hB2⟩
  · rw [n22] at hg
    rw [hq1, m27, m28]
    exact hl.1 g hg
  · rw [n29] at hw
    rw [hq1, m33, m34]
    exact hl.2 w hw
theorem bit_dec2 : ∀ u, u < 6 → ∀ v, v < 6 → (1 : Int32) <<< (nI u &&& 31) &&& (1 : Int32) <<< (nI v &&& 31) = if u = v then (1 : Int32) <<< (nI v &&& 31) else 0 := by decide +kernel
theorem bit_dec3 : ∀ v, v < 6 → ¬ (1 : Int32) <<< (nI v &&& 31) = 0 := by decide +kernel
theorem or_dist (a b c : Int32) : (a ||| b) &&& c = (a &&& c) ||| (b &&& c) := by
  apply Int32.toBitVec_inj.mp
  simp only [Int32.toBitVec_and, Int32.toBitVec_or]
  ext i hi
  simp [Bool.and_or_distrib_right]
theorem or_bit (a b : Int32) (h : ¬ b = 0) : ((a &&& b) ||| b = 0) = False := by
  refine eq_false (fun z => h ?_)
  have e : (a &&& b) ||| b = b := by
    apply Int32.toBitVec_inj.mp
    simp only [Int32.toBitVec_and, Int32.toBitVec_or]
    ext i hi
    simp
  rw [e] at z
  exact z

/-- one agrees -/
theorem R0_agr {W9 : xWd} {d : Nat → Nat → Nat} {S : cS} {M : mS} {w v : Nat} (hd : dInj d) (h : R0 W9 d S M) (hw : w < nBt M) (hn : nBt M ≤ 6) (hv : v < 6) : R0 W9 d (cSetI S (d 4 w) 212 (cFi S (d 4 w) 212 ||| 1 <<< (nI v &&& 31))) (mAst M 45 (6 * w + v) 1) := by
  have hB0 := h.2.2.2.2.2.1
  have hch : chg S (cSetI S (d 4 w) 212 (cFi S (d 4 w) 212 ||| 1 <<< (nI v &&& 31))) (fun b => b = d 4 w) := chg.rf.sI rfl
  refine R0_bt h hch (fun k i _ a b e => fun y => a (hd _ _ _ _ y).1) (fun _ => rfl) (fun k a1 a2 a3 a4 a5 a6 => mAst_ne a6) (h.1.keep hch (fun s _ y => by have := (hd _ _ _ _ y).1; omega) (fun k a1 a2 => mAst_ne (by omega))) ?_ ?_ ?_
  · intro u hu
    by_cases c : u = w
    · subst c
      obtain ⟨h0, h200, h201, h202, h203, h204, h205, h206, h207, h208, h209, h210, h211, h213, h214⟩ := hB0 u hu
      exact ⟨h0, by simp only [cK_setI, cFi_setI, cFr_setI, cK_ast, cFi_ast, cFr_ast, mAst_2, eq_self, Nat.reduceEqDiff, and_false, false_and, and_true, true_and, and_self, if_true, if_false]; exact h200, by simp only [cK_setI, cFi_setI, cFr_setI, cK_ast, cFi_ast, cFr_ast, mAst_2, eq_self, Nat.reduceEqDiff, and_false, false_and, and_true, true_and, and_self, if_true, if_false]; exact h201, by simp only [cK_setI, cFi_setI, cFr_setI, cK_ast, cFi_ast, cFr_ast, mAst_2, eq_self, Nat.reduceEqDiff, and_false, false_and, and_true, true_and, and_self, if_true, if_false]; exact h202, by simp only [cK_setI, cFi_setI, cFr_setI, cK_ast, cFi_ast, cFr_ast, mAst_2, eq_self, Nat.reduceEqDiff, and_false, false_and, and_true, true_and, and_self, if_true, if_false]; exact h203, by simp only [cK_setI, cFi_setI, cFr_setI, cK_ast, cFi_ast, cFr_ast, mAst_2, eq_self, Nat.reduceEqDiff, and_false, false_and, and_true, true_and, and_self, if_true, if_false]; exact h204, by simp only [cK_setI, cFi_setI, cFr_setI, cK_ast, cFi_ast, cFr_ast, mAst_2, eq_self, Nat.reduceEqDiff, and_false, false_and, and_true, true_and, and_self, if_true, if_false]; exact h205, by simp only [cK_setI, cFi_setI, cFr_setI, cK_ast, cFi_ast, cFr_ast, mAst_2, eq_self, Nat.reduceEqDiff, and_false, false_and, and_true, true_and, and_self, if_true, if_false]; exact h206, by simp only [cK_setI, cFi_setI, cFr_setI, cK_ast, cFi_ast, cFr_ast, mAst_2, eq_self, Nat.reduceEqDiff, and_false, false_and, and_true, true_and, and_self, if_true, if_false]; exact h207, by simp only [cK_setI, cFi_setI, cFr_setI, cK_ast, cFi_ast, cFr_ast, mAst_2, eq_self, Nat.reduceEqDiff, and_false, false_and, and_true, true_and, and_self, if_true, if_false]; exact h208, by simp only [cK_setI, cFi_setI, cFr_setI, cK_ast, cFi_ast, cFr_ast, mAst_2, eq_self, Nat.reduceEqDiff, and_false, false_and, and_true, true_and, and_self, if_true, if_false]; exact h209, by simp only [cK_setI, cFi_setI, cFr_setI, cK_ast, cFi_ast, cFr_ast, mAst_2, eq_self, Nat.reduceEqDiff, and_false, false_and, and_true, true_and, and_self, if_true, if_false]; exact h210, by simp only [cK_setI, cFi_setI, cFr_setI, cK_ast, cFi_ast, cFr_ast, mAst_2, eq_self, Nat.reduceEqDiff, and_false, false_and, and_true, true_and, and_self, if_true, if_false]; exact h211, by simp only [cK_setI, cFi_setI, cFr_setI, cK_ast, cFi_ast, cFr_ast, mAst_2, eq_self, Nat.reduceEqDiff, and_false, false_and, and_true, true_and, and_self, if_true, if_false]; exact h213, by simp only [cK_setI, cFi_setI, cFr_setI, cK_ast, cFi_ast, cFr_ast, mAst_2, eq_self, Nat.reduceEqDiff, and_false, false_and, and_true, true_and, and_self, if_true, if_false]; exact h214⟩
    · exact rowB.mono (hB0 u hu) (hch.sm (fun y => c (hd _ _ _ _ y).2)) (by rw [mAst_ne (by omega)]) (by rw [mAst_ne (by omega)]) (by rw [mAst_ne (by omega)]) (by rw [mAst_ne (by omega)]) (by rw [mAst_ne (by omega)]) (by rw [mAst_ne (by omega)]) (by rw [mAst_ne (by omega)]) (by rw [mAst_ne (by omega)]) (by rw [mAst_ne (by omega)]) (by rw [mAst_ne (by omega)]) (by rw [mAst_ne (by omega)])
  · intro u hu x hx
    have h0 := h.2.2.2.2.2.2.1 u hu x hx
    have hu : u < nBt M := hu
    rw [cFi_setI, mAst_eq]
    by_cases c : u = w
    · subst c
      rw [if_pos ⟨rfl, rfl⟩, or_dist, bit_dec2 v hv x hx]
      by_cases c2 : v = x
      · rw [if_pos c2, if_pos (by omega), or_bit _ _ (bit_dec3 x hx)]
        exact (eq_false (by decide)).symm
      · rw [if_neg c2, if_neg (by omega), Int32.or_zero]
        exact h0
    · rw [if_neg (fun z => c (hd _ _ _ _ z.1).2), if_neg (by omega)]
      exact h0
  · intro u hu
    rw [mAst_ne (by omega)]
    exact h.2.2.2.2.2.2.2.1 u hu

theorem Q_wide {W9 : xWd} {B a : Nat} {S : cS} {M : mS} {k : Int32} {y : Int32} {K : xRes → cS → Prop} (h : RR W9 B a S M) (hk : ∀ r S2, ans [eB, eA, eS] W9 B a (oWide M k y) r S2 → K r S2) : (spX7_wide W9).2 [.ref a, .int k, .int y] S K := by
  have h0 := RR_set0 (z := 0) h
  have h00 := h0
  obtain ⟨d, np, N, h0d⟩ := h00
  have h0e := h0d
  obtain ⟨hd, rfl, hi, hR, hp, hl, hN, hB⟩ := h0e
  have g0 := hR.2.2.2.2.2.2.2.2.1.1
  obtain ⟨g7, g8, g9, g10, g11, g12, g13⟩ := hR.2.2.2.2.2.2.2.2.1.2.2
  have e29 : M.1 29 = nI (nBt M) := hi.1.1.1
  have e22 : M.1 22 = nI (nBg M) := hi.1.2.1.1
  have e46 : M.1 46 = nI (nCo M) := hi.1.2.2.1
  have b29 : nBt M ≤ 6 := hi.1.1.2
  have b22 : nBg M ≤ 24 := hi.1.2.1.2
  have b46 : nCo M ≤ 12 := hi.1.2.2.2
  have n29 : nBt (mSet M 0 0) = nBt M := rfl
  have n22 : nBg (mSet M 0 0) = nBg M := rfl
  have n46 : nCo (mSet M 0 0) = nCo M := rfl
  obtain ⟨f1, f2, f3, f4, f5, f6⟩ := R0_boats hR
  rw [n29] at f4 f5 f6
  rw [spwX7_wide, f2, f5]
  have hbk : ∀ j, j < lCn S (d 6 4) → bOk S (lG S (d 6 4) j) := fun j hj => by
    rw [f4] at hj
    rw [f6 j hj]
    exact (R0_tow hR hi hj).2.1
  refine ⟨g0, ⟨f1, f3⟩, hbk, fun q => hk _ _ (ans_e h (z := 1) ?_ (by decide) rfl), fun v => ?_⟩
  · unfold oWide
    rw [if_pos (fun z => q (by rw [← le_m1 (by omega), ← e29]; exact z))]
  · have y0 : (0 ≤ k ∧ k ≤ M.1 29 - 1) := by rw [e29, le_m1 (by omega)]; exact v
    rw [idx (by omega)] at v
    obtain ⟨s, hs, rfl⟩ := v
    obtain ⟨t1, -, -, t4, -⟩ := R0_tow hR hi hs
    have e504 : cFi S (d 5 s) 504 = M.2 40 s := (hR.2.2.1 s hs).2.2.2.2.2.1
    obtain ⟨⟨w1, w2⟩, -⟩ := hi.2.2.2.1 s hs
    have w1 : M.2 42 s = nI (nW M s) := w1
    have w2 : nW M s ≤ 12 := w2
    have t4 : rN S (d 5 s) = nW M s := t4
    rw [ix_nI (show s < 1000 by omega), f6 s hs, t1, t4, e504]
    have ho' : oWide M (nI s) y = if ¬ (1 ≤ y ∧ y ≤ 4) then (0, mSet M 0 2) else if 0 < M.2 42 s then (0, mSet M 0 3) else (M.2 40 s, mAst (mSet M 0 0) 40 s y) := by
      unfold oWide
      rw [if_neg (not_not_intro y0), ix_nI (show s < 1000 by omega)]
    have e0 : (0 < M.2 42 s) = (0 < nW M s) := by rw [w1, show (0 : Int32) = nI 0 from rfl, lt_nI (by omega) (by omega)]
    refine ⟨fun q => hk _ _ (ans_e h (z := 2) ?_ (by decide) rfl), fun y2 => ⟨fun q => hk _ _ (ans_e h (z := 3) ?_ (by decide) rfl), fun q => ?_⟩⟩
    · rw [ho', if_pos q]
    · rw [ho', if_neg (not_not_intro y2), if_pos (by rw [e0]; omega)]
    · rw [if_neg (not_not_intro y2), if_neg (by rw [e0]; omega)] at ho'
      generalize hM2 : mAst (mSet M 0 0) 40 s y = M2
      have m : ∀ k, k ≠ 40 → M2.2 k = (mSet M 0 0).2 k := by
        intro k a0
        rw [← hM2]
        first | rfl | (simp only [mAst_2]; funext n; repeat rw [if_neg (fun z => by omega)]) | (funext n; simp only [mAst_2, mSet_2]; repeat rw [if_neg (fun z => by omega)])
      have c : ∀ k, M2.1 k = (mSet M 0 0).1 k := by
        intro k 
        rw [← hM2]
        first | rfl | (simp only [mAst_1, mSet_1]; repeat rw [if_neg (by omega)]) | (repeat rw [mSet_ne (by omega)]; rfl) | (repeat rw [mSet_ne (by omega)])
      generalize hS2 : cSetI S (d 5 s) 504 y = S2
      have hch : chg S S2 (fun b => b = d 5 s) := by
        rw [← hS2]
        exact (chg.sI (X := (fun b => b = d 5 s)) (chg.rf (X := (fun b => b = d 5 s))) rfl)
      have hX : ∀ (k i : Nat), ¬ (k = 5 ∧ i = s) → ¬ (fun b => b = d 5 s) (d k i) := fun k i z y => z (hd _ _ _ _ y)
      have hL : ∀ k i, isL (mSet M 0 0) k i → ¬ (fun b => b = d 5 s) (d k i) := fun k i z => hX k i (by rcases z with ⟨rfl, _⟩ | ⟨rfl, _⟩ | ⟨rfl, _⟩ <;> omega)
      have hR2 : R0 W9 d S2 M2 := by
        refine ⟨hR.1.mono (fun z _ => hch.sm (hX 0 z (by omega))) (m 5 (by omega)) (m 6 (by omega)) (m 7 (by omega)) (m 8 (by omega)) (m 9 (by omega)) (m 10 (by omega)) (m 11 (by omega)) (m 12 (by omega)) (m 13 (by omega)) (m 14 (by omega)) (m 15 (by omega)) (m 16 (by omega)) , hR.2.1.mono (fun z _ => hch.sm (hX 1 z (by omega))) (m 17 (by omega)) , ?_, hR.2.2.2.1.mono (fun z _ => hch.sm (hX 2 z (by omega))) (m 23 (by omega)) (m 24 (by omega)) (m 25 (by omega)) (m 26 (by omega)) (m 27 (by omega)) (m 28 (by omega)) (c 22), hR.2.2.2.2.1.mono (fun z _ => hch.sm (hX 3 z (by omega))) (m 47 (by omega)) (m 48 (by omega)) (m 49 (by omega)) (m 50 (by omega)) (m 51 (by omega)) (m 52 (by omega)) (m 53 (by omega)) (m 54 (by omega)) (m 55 (by omega)) (m 24 (by omega)) (m 25 (by omega)) (c 46) (c 22), hR.2.2.2.2.2.1.mono (fun z _ => hch.sm (hX 4 z (by omega))) (m 30 (by omega)) (m 31 (by omega)) (m 32 (by omega)) (m 33 (by omega)) (m 34 (by omega)) (m 35 (by omega)) (m 36 (by omega)) (m 37 (by omega)) (m 38 (by omega)) (m 39 (by omega)) (m 43 (by omega)) (c 29), hR.2.2.2.2.2.2.1.mono (fun z _ => hch.sm (hX 4 z (by omega))) (m 45 (by omega)) (c 29), hR.2.2.2.2.2.2.2.1.mono (fun z _ => hch.sm (hX 10 z (by omega))) (m 44 (by omega)) (c 29), hR.2.2.2.2.2.2.2.2.1.mono (hch.sm (hX 9 0 (by omega)))  (c 1) (c 2) (c 3) (c 4) (c 56) (c 57) (c 58), hR.2.2.2.2.2.2.2.2.2.1.mono (hch.sm (hX 9 1 (by omega))) (m 20 (by omega)) (m 21 (by omega)) (c 1), hR.2.2.2.2.2.2.2.2.2.2.mono (fun k i z hc => hch.lst (hL k i z) hc) (m 18 (by omega)) (m 19 (by omega)) (m 41 (by omega)) (m 42 (by omega)) (c 22) (c 29) (c 46)⟩
        · intro x hx
          rw [show nBt M2 = nBt (mSet M 0 0) by unfold nBt; rw [c 29]] at hx
          obtain ⟨h0, h500, h501, h502, h503, h504, h505⟩ := hR.2.2.1 x hx
          have ed : (d 5 x = d 5 s) = (x = s) := propext ⟨fun y => (hd _ _ _ _ y).2, fun y => by rw [y]⟩
          refine ⟨(hch.2.2.1 _).trans h0, ?_⟩
          rw [← hS2, ← hM2]
          by_cases q : x = s
          · subst q
            simp only [cFi_setI, cFr_setI, cFi_setR, cFr_setR, cFi_ast, cFr_ast, cRi_ast, cRi_setI, cRi_setR, mAst_2, mSet_1, eq_self, Nat.reduceEqDiff, and_false, false_and, and_true, true_and, and_self, if_true, if_false, not_true_eq_false, not_false_eq_true, false_implies, true_implies, implies_true, ed]
            exact ⟨h500, h501, h502, h503, h505⟩
          · simp only [cFi_setI, cFr_setI, cFi_setR, cFr_setR, cFi_ast, cFr_ast, cRi_ast, cRi_setI, cRi_setR, mAst_2, mSet_1, eq_self, Nat.reduceEqDiff, and_false, false_and, and_true, true_and, and_self, if_true, if_false, not_true_eq_false, not_false_eq_true, false_implies, true_implies, implies_true, ed, q]
            exact ⟨h500, h501, h502, h503, h504, h505⟩
      have hi2 : iAll M2 := by
        refine ⟨hi.1.mono  (c 29) (c 22) (c 46), hi.2.1.mono (m 9 (by omega)) (m 7 (by omega)) (m 5 (by omega)) (m 15 (by omega)) , hi.2.2.1.mono (m 18 (by omega)) (m 17 (by omega)) (m 19 (by omega)) (m 28 (by omega)) (m 27 (by omega)) (c 22), ?_, hi.2.2.2.2.1.mono (m 28 (by omega)) (m 27 (by omega)) (m 18 (by omega)) (m 19 (by omega)) (m 42 (by omega)) (m 41 (by omega)) (m 24 (by omega)) (m 25 (by omega)) (m 23 (by omega)) (c 22) (c 29) (c 46), hi.2.2.2.2.2.1.mono (m 47 (by omega)) (m 48 (by omega)) (m 49 (by omega)) (m 51 (by omega)) (c 46), hi.2.2.2.2.2.2.1.mono (m 37 (by omega)) (m 35 (by omega)) (m 34 (by omega)) (m 33 (by omega)) (m 36 (by omega)) (c 29), hi.2.2.2.2.2.2.2.1.mono (m 45 (by omega)) (c 29), hi.2.2.2.2.2.2.2.2.1.mono (m 32 (by omega)) (m 39 (by omega)) (m 42 (by omega)) (m 43 (by omega)) (m 44 (by omega)) (m 53 (by omega)) (m 54 (by omega)) (m 55 (by omega)) (m 35 (by omega)) (c 29) (c 46), hi.2.2.2.2.2.2.2.2.2.mono (m 20 (by omega)) (c 1) (c 4)⟩
        · intro x2 hx2
          rw [show nBt M2 = nBt (mSet M 0 0) by unfold nBt; rw [c 29]] at hx2
          obtain ⟨i1, i2, i3⟩ := hi.2.2.2.1 x2 hx2
          have eW : nW M2 x2 = nW (mSet M 0 0) x2 := by unfold nW; rw [m 42 (by omega)]
          rw [eW, m 42 (by omega), m 41 (by omega), m 28 (by omega), show nBg M2 = nBg (mSet M 0 0) by unfold nBg; rw [c 22]]
          refine ⟨i1, ?_, i3⟩
          unfold mWk at i2 ⊢
          rw [← hM2, mAst_eq]
          by_cases q2 : x2 = s
          · rw [if_pos q2]
            obtain ⟨j, j1, j2, rfl⟩ := in_1n (a := 1) (b := 4) y2.1 y2.2 (by omega) (by omega)
            exact ⟨j, rfl, by omega, j2⟩
          · rw [if_neg q2]
            exact i2
      have hE : RR W9 B (d 9 0) S2 M2 := by
        have hw : ways M2 (nBt (mSet M 0 0)) = ways (mSet M 0 0) (nBt (mSet M 0 0)) := ways_same _ (fun v _ => way_of (by rw [m 34 (by omega)]) (by rw [m 37 (by omega)]) (by rw [m 33 (by omega)]) (by rw [m 35 (by omega)]))
        exact ⟨d, np, N, (RRd_step h0d hR2 hi2 hw hch (hX 9 2 (by omega)) (fun i => hX 11 i (by omega)) (fun i => hX 12 i (by omega)) (c 22 ) (c 29 ) (m 27 (by omega)) (m 28 (by omega)) (m 33 (by omega)) (m 34 (by omega))).1⟩
      have hE0 : M2.1 0 = 0 := by rw [← hM2]; first | rfl | simp [mAst_1, mSet_1]
      exact hk _ _ (ans_1 hE (by rw [ho', hM2]) hE0 rfl)

theorem Q_clean {W9 : xWd} {B a : Nat} {S : cS} {M : mS} {k : Int32} {K : xRes → cS → Prop} (h : RR W9 B a S M) (hk : ∀ r S2, ans [eB, eS] W9 B a (oClean M k) r S2 → K r S2) : (spX7_clean W9).2 [.ref a, .int k] S K := by
  have h0 := RR_set0 (z := 0) h
  have h00 := h0
  obtain ⟨d, np, N, h0d⟩ := h00
  have h0e := h0d
  obtain ⟨hd, rfl, hi, hR, hp, hl, hN, hB⟩ := h0e
  have g0 := hR.2.2.2.2.2.2.2.2.1.1
  obtain ⟨g7, g8, g9, g10, g11, g12, g13⟩ := hR.2.2.2.2.2.2.2.2.1.2.2
  have e29 : M.1 29 = nI (nBt M) := hi.1.1.1
  have e22 : M.1 22 = nI (nBg M) := hi.1.2.1.1
  have e46 : M.1 46 = nI (nCo M) := hi.1.2.2.1
  have b29 : nBt M ≤ 6 := hi.1.1.2
  have b22 : nBg M ≤ 24 := hi.1.2.1.2
  have b46 : nCo M ≤ 12 := hi.1.2.2.2
  have n29 : nBt (mSet M 0 0) = nBt M := rfl
  have n22 : nBg (mSet M 0 0) = nBg M := rfl
  have n46 : nCo (mSet M 0 0) = nCo M := rfl
  obtain ⟨f1, f2, f3, f4, f5, f6⟩ := R0_barges hR
  rw [n22] at f4 f5 f6
  rw [spwX7_clean, f2, f5]
  have hgk : ∀ j, j < lCn S (d 6 2) → cIn S (lG S (d 6 2) j) 102 6 := fun j hj => by
    rw [f4] at hj
    rw [f6 j hj]
    exact (R0_gOk hd hR hi hj).1
  refine ⟨g0, ⟨f1, f3⟩, hgk, fun q => hk _ _ (ans_e h (z := 1) ?_ (by decide) rfl), fun v => ?_⟩
  · unfold oClean
    rw [if_pos (fun z => q (by rw [← le_m1 (by omega), ← e22]; exact z))]
  · have y0 : (0 ≤ k ∧ k ≤ M.1 22 - 1) := by rw [e22, le_m1 (by omega)]; exact v
    rw [idx (by omega)] at v
    obtain ⟨s, hs, rfl⟩ := v
    have hG := hR.2.2.2.1 s hs
    have e103 : cFi S (d 2 s) 103 = M.2 24 s := hG.2.2.2.2.1
    have e105 : cFi S (d 2 s) 105 = M.2 26 s := hG.2.2.2.2.2.2
    have e812 : cFi S (d 9 0) 812 = M.1 57 := g12
    obtain ⟨x1, x2⟩ := R0_bh hd hR hi hs
    have e500 : (cFi S (cRf S (d 2 s) 102) 500 = -1) = (M.2 28 s = -1) := by
      by_cases z : M.2 28 s = -1
      · rw [(x1 z).2.1]; exact propext ⟨fun _ => z, fun _ => rfl⟩
      · exact propext ⟨fun w => absurd w (x2 z).2.2, fun w => absurd w z⟩
    have i24 : (M.2 24 s = 0) = ¬ (0 < M.2 24 s) := by
      rcases (hi.2.2.2.2.1 s hs).2.1 with ⟨z, -⟩ | ⟨⟨z1, z2⟩, -⟩
      · have z : M.2 24 s = 0 := z
        rw [z]; decide
      · obtain ⟨j, j1, j2, ej⟩ := in_1n (a := 1) (b := 12) z1 z2 (by omega) (by omega)
        have ej : M.2 24 s = nI j := ej
        rw [ej, show (0 : Int32) = nI 0 from rfl, lt_nI (by omega) (by omega), eq_nI (by omega) (by omega)]
        exact propext ⟨fun z => by omega, fun z => by omega⟩
    have hT0 := True.intro
    rw [ix_nI (show s < 1000 by omega), f6 s hs, e500, e103, e105, e812]
    have ho' : oClean M (nI s) = if ¬ M.2 28 s = -1 ∨ 0 < M.2 24 s ∨ M.2 26 s = -1 then (0, mSet M 0 2) else (M.2 26 s, mSet (mAst (mSet M 0 0) 26 s (-1)) 57 (M.1 57 + 20)) := by
      unfold oClean
      rw [if_neg (not_not_intro y0), ix_nI (show s < 1000 by omega)]
    have ec : (¬ M.2 28 s = -1 ∨ 0 < M.2 24 s ∨ M.2 26 s = -1) ↔ ¬ (M.2 28 s = -1 ∧ M.2 24 s = 0 ∧ ¬ M.2 26 s = -1) := by
      rw [i24]
      constructor
      · rintro (z | z | z) ⟨w1, w2, w3⟩
        · exact z w1
        · exact w2 z
        · exact w3 z
      · intro z
        by_cases w1 : M.2 28 s = -1
        · by_cases w2 : 0 < M.2 24 s
          · exact Or.inr (Or.inl w2)
          · by_cases w3 : M.2 26 s = -1
            · exact Or.inr (Or.inr w3)
            · exact absurd ⟨w1, w2, w3⟩ z
        · exact Or.inl w1
    refine ⟨fun q => hk _ _ (ans_e h (z := 2) ?_ (by decide) rfl), fun q => ?_⟩
    · rw [ho', if_pos (ec.mpr q)]
    · rw [if_neg (fun z => (ec.mp z) q)] at ho'
      generalize hM2 : mSet (mAst (mSet M 0 0) 26 s (-1)) 57 (M.1 57 + 20) = M2
      have m : ∀ k, k ≠ 26 → M2.2 k = (mSet M 0 0).2 k := by
        intro k a0
        rw [← hM2]
        first | rfl | (simp only [mAst_2]; funext n; repeat rw [if_neg (fun z => by omega)]) | (funext n; simp only [mAst_2, mSet_2]; repeat rw [if_neg (fun z => by omega)])
      have c : ∀ k, k ≠ 57 → M2.1 k = (mSet M 0 0).1 k := by
        intro k a0
        rw [← hM2]
        first | rfl | (simp only [mAst_1, mSet_1]; repeat rw [if_neg (by omega)]) | (repeat rw [mSet_ne (by omega)]; rfl) | (repeat rw [mSet_ne (by omega)])
      generalize hS2 : cSetI (cSetI S (d 2 s) 105 (-1)) (d 9 0) 812 (M.1 57 + 20) = S2
      have hch : chg S S2 (fun b => b = d 2 s ∨ b = d 9 0) := by
        rw [← hS2]
        exact (chg.sI (X := (fun b => b = d 2 s ∨ b = d 9 0)) (chg.sI (X := (fun b => b = d 2 s ∨ b = d 9 0)) (chg.rf (X := (fun b => b = d 2 s ∨ b = d 9 0))) (Or.inl rfl)) (Or.inr rfl))
      have hX : ∀ (k i : Nat), ¬ (k = 2 ∧ i = s) ∧ ¬ (k = 9 ∧ i = 0) → ¬ (fun b => b = d 2 s ∨ b = d 9 0) (d k i) := fun k i z y => y.elim (fun y => z.1 (hd _ _ _ _ y)) (fun y => z.2 (hd _ _ _ _ y))
      have hL : ∀ k i, isL (mSet M 0 0) k i → ¬ (fun b => b = d 2 s ∨ b = d 9 0) (d k i) := fun k i z => hX k i (by rcases z with ⟨rfl, _⟩ | ⟨rfl, _⟩ | ⟨rfl, _⟩ <;> omega)
      have hR2 : R0 W9 d S2 M2 := by
        refine ⟨hR.1.mono (fun z _ => hch.sm (hX 0 z (by omega))) (m 5 (by omega)) (m 6 (by omega)) (m 7 (by omega)) (m 8 (by omega)) (m 9 (by omega)) (m 10 (by omega)) (m 11 (by omega)) (m 12 (by omega)) (m 13 (by omega)) (m 14 (by omega)) (m 15 (by omega)) (m 16 (by omega)) , hR.2.1.mono (fun z _ => hch.sm (hX 1 z (by omega))) (m 17 (by omega)) , hR.2.2.1.mono (fun z _ => hch.sm (hX 5 z (by omega))) (m 40 (by omega)) (c 29 (by omega)), ?_, hR.2.2.2.2.1.mono (fun z _ => hch.sm (hX 3 z (by omega))) (m 47 (by omega)) (m 48 (by omega)) (m 49 (by omega)) (m 50 (by omega)) (m 51 (by omega)) (m 52 (by omega)) (m 53 (by omega)) (m 54 (by omega)) (m 55 (by omega)) (m 24 (by omega)) (m 25 (by omega)) (c 46 (by omega)) (c 22 (by omega)), hR.2.2.2.2.2.1.mono (fun z _ => hch.sm (hX 4 z (by omega))) (m 30 (by omega)) (m 31 (by omega)) (m 32 (by omega)) (m 33 (by omega)) (m 34 (by omega)) (m 35 (by omega)) (m 36 (by omega)) (m 37 (by omega)) (m 38 (by omega)) (m 39 (by omega)) (m 43 (by omega)) (c 29 (by omega)), hR.2.2.2.2.2.2.1.mono (fun z _ => hch.sm (hX 4 z (by omega))) (m 45 (by omega)) (c 29 (by omega)), hR.2.2.2.2.2.2.2.1.mono (fun z _ => hch.sm (hX 10 z (by omega))) (m 44 (by omega)) (c 29 (by omega)), ?_, hR.2.2.2.2.2.2.2.2.2.1.mono (hch.sm (hX 9 1 (by omega))) (m 20 (by omega)) (m 21 (by omega)) (c 1 (by omega)), hR.2.2.2.2.2.2.2.2.2.2.mono (fun k i z hc => hch.lst (hL k i z) hc) (m 18 (by omega)) (m 19 (by omega)) (m 41 (by omega)) (m 42 (by omega)) (c 22 (by omega)) (c 29 (by omega)) (c 46 (by omega))⟩
        · intro x hx
          rw [show nBg M2 = nBg (mSet M 0 0) by unfold nBg; rw [c 22 (by omega)]] at hx
          have n40 : ∀ x, (d 2 x = d 9 0) = False := fun x => eq_false (hd.ne (by omega))
          obtain ⟨h0, h100, h101, h102, h103, h104, h105⟩ := hR.2.2.2.1 x hx
          have ed : (d 2 x = d 2 s) = (x = s) := propext ⟨fun y => (hd _ _ _ _ y).2, fun y => by rw [y]⟩
          refine ⟨(hch.2.2.1 _).trans h0, ?_⟩
          rw [← hS2, ← hM2]
          by_cases q : x = s
          · subst q
            simp only [cFi_setI, cFr_setI, cFi_setR, cFr_setR, cFi_ast, cFr_ast, cRi_ast, cRi_setI, cRi_setR, mAst_2, mSet_1, eq_self, Nat.reduceEqDiff, and_false, false_and, and_true, true_and, and_self, if_true, if_false, not_true_eq_false, not_false_eq_true, false_implies, true_implies, implies_true, ed, n40, mSet_2]
            exact ⟨h100, h101, h102, h103, h104⟩
          · simp only [cFi_setI, cFr_setI, cFi_setR, cFr_setR, cFi_ast, cFr_ast, cRi_ast, cRi_setI, cRi_setR, mAst_2, mSet_1, eq_self, Nat.reduceEqDiff, and_false, false_and, and_true, true_and, and_self, if_true, if_false, not_true_eq_false, not_false_eq_true, false_implies, true_implies, implies_true, ed, q, n40, mSet_2]
            exact ⟨h100, h101, h102, h103, h104, h105⟩
        · obtain ⟨a0, a1, a807, a808, a809, a810, a811, a812, a813⟩ := hR.2.2.2.2.2.2.2.2.1
          refine ⟨(hch.2.2.1 _).trans a0, by rw [← hS2]; exact a1, ?_⟩
          rw [← hS2, ← hM2]
          simp only [cFi_setI, cFr_setI, cFi_setR, cFr_setR, cFi_ast, cFr_ast, cRi_ast, cRi_setI, cRi_setR, mAst_2, mSet_1, eq_self, Nat.reduceEqDiff, and_false, false_and, and_true, true_and, and_self, if_true, if_false, not_true_eq_false, not_false_eq_true, false_implies, true_implies, implies_true, hT0, show (d 9 0 = d 2 s) = False from eq_false (hd.ne (by omega))]
          exact ⟨a807, a808, a809, a810, a811, a813⟩
      have hi2 : iAll M2 := by
        refine ⟨hi.1.mono  (c 29 (by omega)) (c 22 (by omega)) (c 46 (by omega)), hi.2.1.mono (m 9 (by omega)) (m 7 (by omega)) (m 5 (by omega)) (m 15 (by omega)) , hi.2.2.1.mono (m 18 (by omega)) (m 17 (by omega)) (m 19 (by omega)) (m 28 (by omega)) (m 27 (by omega)) (c 22 (by omega)), hi.2.2.2.1.mono (m 42 (by omega)) (m 40 (by omega)) (m 41 (by omega)) (m 28 (by omega)) (c 29 (by omega)) (c 22 (by omega)), hi.2.2.2.2.1.mono (m 28 (by omega)) (m 27 (by omega)) (m 18 (by omega)) (m 19 (by omega)) (m 42 (by omega)) (m 41 (by omega)) (m 24 (by omega)) (m 25 (by omega)) (m 23 (by omega)) (c 22 (by omega)) (c 29 (by omega)) (c 46 (by omega)), hi.2.2.2.2.2.1.mono (m 47 (by omega)) (m 48 (by omega)) (m 49 (by omega)) (m 51 (by omega)) (c 46 (by omega)), hi.2.2.2.2.2.2.1.mono (m 37 (by omega)) (m 35 (by omega)) (m 34 (by omega)) (m 33 (by omega)) (m 36 (by omega)) (c 29 (by omega)), hi.2.2.2.2.2.2.2.1.mono (m 45 (by omega)) (c 29 (by omega)), hi.2.2.2.2.2.2.2.2.1.mono (m 32 (by omega)) (m 39 (by omega)) (m 42 (by omega)) (m 43 (by omega)) (m 44 (by omega)) (m 53 (by omega)) (m 54 (by omega)) (m 55 (by omega)) (m 35 (by omega)) (c 29 (by omega)) (c 46 (by omega)), hi.2.2.2.2.2.2.2.2.2.mono (m 20 (by omega)) (c 1 (by omega)) (c 4 (by omega))⟩
      have hE : RR W9 B (d 9 0) S2 M2 := by
        have hw : ways M2 (nBt (mSet M 0 0)) = ways (mSet M 0 0) (nBt (mSet M 0 0)) := ways_same _ (fun v _ => way_of (by rw [m 34 (by omega)]) (by rw [m 37 (by omega)]) (by rw [m 33 (by omega)]) (by rw [m 35 (by omega)]))
        exact ⟨d, np, N, (RRd_step h0d hR2 hi2 hw hch (hX 9 2 (by omega)) (fun i => hX 11 i (by omega)) (fun i => hX 12 i (by omega)) (c 22 (by omega)) (c 29 (by omega)) (m 27 (by omega)) (m 28 (by omega)) (m 33 (by omega)) (m 34 (by omega))).1⟩
      have hE0 : M2.1 0 = 0 := by rw [← hM2]; first | rfl | simp [mAst_1, mSet_1]
      exact hk _ _ (ans_1 hE (by rw [ho', hM2]) hE0 rfl)

