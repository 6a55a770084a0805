/-! The class's answers are the reference's: to go, radio. -/
theorem gD_le {a b : Nat} (ha : a < 8) (hb : b < 8) : gD (nI a) (nI b) ≤ 7 := by
  rw [gD_nI (by omega) (by omega)]
  omega
/-- no way takes more than fifteen notes -/
theorem way_le {M : mS} (hi : iAll M) {w : Nat} (hw : w < nBt M) : way M w ≤ 15 := by
  obtain ⟨b1, -, b3⟩ := hi.2.2.2.2.2.2.1 w hw
  unfold way
  by_cases c : M.2 34 w = -1
  · rw [if_pos c]
    obtain ⟨-, b5, -⟩ := b3.resolve_right (fun z => vin_m1 (c ▸ z.1))
    by_cases g : M.2 37 w = -1
    · rw [if_pos g]; omega
    · rw [if_neg g]
      obtain ⟨x, hx, ex⟩ := vp_in_of (b1.resolve_left g) (by omega)
      obtain ⟨y, hy, ey⟩ := vp_in_of b5 (by omega)
      have := gD_le hx hy
      rw [ex, ey]
      omega
  · rw [if_neg c]
    by_cases g : M.2 37 w = -1
    · rw [if_pos g]; omega
    · rw [if_neg g]
      obtain ⟨x, hx, ex⟩ := vp_in_of (b1.resolve_left g) (by omega)
      obtain ⟨y, hy, ey⟩ := ptA_in hi hw c
      have := gD_le hx hy
      rw [ex, ey]
      omega

theorem Q_go {W9 : xWd} {B a : Nat} {S : cS} {M : mS} {k : Int32} {y : Int32} {K : xRes → cS → Prop} (h : RR W9 B a S M) (hB15 : B + 15 ≤ 8000) (hk : ∀ r S2, ans [eB] W9 (B + 15) a (oGo M k y) r S2 → K r S2) : (spX7_go W9).2 [.ref a, .int k, .int y] S K := by
  have h0 := RR_set0 (z := 0) h
  have h00 := h0
  obtain ⟨d, np, N, h0d⟩ := h00
  have h0e := h0d
  obtain ⟨hd, rfl, hi, hR, hp, hl, hN, hB⟩ := h0e
  have g0 := hR.2.2.2.2.2.2.2.2.1.1
  obtain ⟨g7, g8, g9, g10, g11, g12, g13⟩ := hR.2.2.2.2.2.2.2.2.1.2.2
  have e29 : M.1 29 = nI (nBt M) := hi.1.1.1
  have e22 : M.1 22 = nI (nBg M) := hi.1.2.1.1
  have e46 : M.1 46 = nI (nCo M) := hi.1.2.2.1
  have b29 : nBt M ≤ 6 := hi.1.1.2
  have b22 : nBg M ≤ 24 := hi.1.2.1.2
  have b46 : nCo M ≤ 12 := hi.1.2.2.2
  have n29 : nBt (mSet M 0 0) = nBt M := rfl
  have n22 : nBg (mSet M 0 0) = nBg M := rfl
  have n46 : nCo (mSet M 0 0) = nCo M := rfl
  obtain ⟨f1, f2, f3, f4, f5, f6⟩ := R0_boats hR
  rw [n29] at f4 f5 f6
  have h' := RR_up h (show B ≤ B + 15 by omega) hB15
  rw [spwX7_go, f2, f5]
  refine ⟨g0, ⟨f1, f3⟩, fun q => hk _ _ (ans_e h' (z := 1) ?_ (by decide) rfl), fun v => ⟨fun q => hk _ _ (ans_e h' (z := 1) ?_ (by decide) rfl), fun v2 => ?_⟩⟩
  · unfold oGo
    rw [if_pos (fun z => q (by rw [← le_m1 (by omega), ← e29]; exact z.1))]
  · unfold oGo
    rw [if_pos (fun z => q (by have := z.2; rw [idx7] at this; exact this))]
  · have y0 : (0 ≤ k ∧ k ≤ M.1 29 - 1) ∧ 0 ≤ y ∧ y ≤ 7 := ⟨by rw [e29, le_m1 (by omega)]; exact v, by rw [idx7]; exact v2⟩
    rw [idx (by omega)] at v
    obtain ⟨s, hs, rfl⟩ := v
    rw [show (8 : Int32) = nI 8 from rfl, idx (by omega)] at v2
    obtain ⟨j, hj, ej⟩ := v2
    have hC := hR.2.2.2.2.2.1 s hs
    have e206 : cFi S (d 4 s) 206 = (if M.2 34 s = -1 then M.2 33 s else -1) := hC.2.2.2.2.2.2.2.1
    have e210 : cFi S (d 4 s) 210 = M.2 37 s := hC.2.2.2.2.2.2.2.2.2.2.2.1
    have e807 : cFi S (d 9 0) 807 = M.1 1 := g7
    rw [ix_nI (show s < 1000 by omega), f6 s hs, e206, e210, e807]
    have ev : (if (if M.2 34 s = -1 then M.2 33 s else -1) = y then -1 else y) = (if M.2 34 s = -1 ∧ M.2 33 s = y then -1 else y) := by
      by_cases z : M.2 34 s = -1
      · rw [if_pos z]
        by_cases z2 : M.2 33 s = y
        · rw [if_pos z2, if_pos ⟨z, z2⟩]
        · rw [if_neg z2, if_neg (fun w => z2 w.2)]
      · rw [if_neg z, if_neg (fun w => nI_m1 (show j < 1000 by omega) (by rw [← ej, ← w])), if_neg (fun w => z w.1)]
    have hv : (if M.2 34 s = -1 ∧ M.2 33 s = y then -1 else y) = -1 ∨ vp_in (if M.2 34 s = -1 ∧ M.2 33 s = y then -1 else y) 8 := by
      split
      · exact Or.inl rfl
      · exact Or.inr (by rw [ej]; exact xin_nI hj (by omega))
    have hv2 : M.2 34 s = -1 → vp_in (M.2 33 s) 8 → ¬ (if M.2 34 s = -1 ∧ M.2 33 s = y then -1 else y) = M.2 33 s := fun z z2 => by
      by_cases w : M.2 33 s = y
      · rw [if_pos ⟨z, w⟩]
        exact fun q => vin_m1 (n := 8) (by rw [← q] at z2; exact z2)
      · rw [if_neg (fun q => w q.2)]
        exact fun q => w q.symm
    have ho' : oGo M (nI s) y = (M.2 37 s, mAst (mAst (mSet M 0 0) 37 s (if M.2 34 s = -1 ∧ M.2 33 s = y then -1 else y)) 38 s (if M.2 34 s = -1 then M.1 1 else M.2 38 s)) := by
      unfold oGo
      rw [if_neg (not_not_intro y0), ix_nI (show s < 1000 by omega)]
    rw [ev]
    generalize (if M.2 34 s = -1 ∧ M.2 33 s = y then -1 else y) = v at *
    generalize hM2 : mAst (mAst (mSet M 0 0) 37 s v) 38 s (if M.2 34 s = -1 then M.1 1 else M.2 38 s) = M2
    have m : ∀ k, k ≠ 37 → k ≠ 38 → M2.2 k = (mSet M 0 0).2 k := by
      intro k a0 a1
      rw [← hM2]
      first | rfl | (simp only [mAst_2]; funext n; repeat rw [if_neg (fun z => by omega)]) | (funext n; simp only [mAst_2, mSet_2]; repeat rw [if_neg (fun z => by omega)])
    have c : ∀ k, M2.1 k = (mSet M 0 0).1 k := by
      intro k 
      rw [← hM2]
      first | rfl | (simp only [mAst_1, mSet_1]; repeat rw [if_neg (by omega)]) | (repeat rw [mSet_ne (by omega)]; rfl) | (repeat rw [mSet_ne (by omega)])
    generalize hS2 : cSetI (cSetI S (d 4 s) 210 v) (d 4 s) 211 (M.1 1) = S2
    have hch : chg S S2 (fun b => b = d 4 s) := by
      rw [← hS2]
      exact (chg.sI (X := (fun b => b = d 4 s)) (chg.sI (X := (fun b => b = d 4 s)) (chg.rf (X := (fun b => b = d 4 s))) rfl) rfl)
    have hX : ∀ (k i : Nat), ¬ (k = 4 ∧ i = s) → ¬ (fun b => b = d 4 s) (d k i) := fun k i z y => z (hd _ _ _ _ y)
    have hL : ∀ k i, isL (mSet M 0 0) k i → ¬ (fun b => b = d 4 s) (d k i) := fun k i z => hX k i (by rcases z with ⟨rfl, _⟩ | ⟨rfl, _⟩ | ⟨rfl, _⟩ <;> omega)
    have hR2 : R0 W9 d S2 M2 := by
      refine ⟨hR.1.mono (fun z _ => hch.sm (hX 0 z (by omega))) (m 5 (by omega) (by omega)) (m 6 (by omega) (by omega)) (m 7 (by omega) (by omega)) (m 8 (by omega) (by omega)) (m 9 (by omega) (by omega)) (m 10 (by omega) (by omega)) (m 11 (by omega) (by omega)) (m 12 (by omega) (by omega)) (m 13 (by omega) (by omega)) (m 14 (by omega) (by omega)) (m 15 (by omega) (by omega)) (m 16 (by omega) (by omega)) , hR.2.1.mono (fun z _ => hch.sm (hX 1 z (by omega))) (m 17 (by omega) (by omega)) , hR.2.2.1.mono (fun z _ => hch.sm (hX 5 z (by omega))) (m 40 (by omega) (by omega)) (c 29), hR.2.2.2.1.mono (fun z _ => hch.sm (hX 2 z (by omega))) (m 23 (by omega) (by omega)) (m 24 (by omega) (by omega)) (m 25 (by omega) (by omega)) (m 26 (by omega) (by omega)) (m 27 (by omega) (by omega)) (m 28 (by omega) (by omega)) (c 22), hR.2.2.2.2.1.mono (fun z _ => hch.sm (hX 3 z (by omega))) (m 47 (by omega) (by omega)) (m 48 (by omega) (by omega)) (m 49 (by omega) (by omega)) (m 50 (by omega) (by omega)) (m 51 (by omega) (by omega)) (m 52 (by omega) (by omega)) (m 53 (by omega) (by omega)) (m 54 (by omega) (by omega)) (m 55 (by omega) (by omega)) (m 24 (by omega) (by omega)) (m 25 (by omega) (by omega)) (c 46) (c 22), ?_, ?_, hR.2.2.2.2.2.2.2.1.mono (fun z _ => hch.sm (hX 10 z (by omega))) (m 44 (by omega) (by omega)) (c 29), hR.2.2.2.2.2.2.2.2.1.mono (hch.sm (hX 9 0 (by omega)))  (c 1) (c 2) (c 3) (c 4) (c 56) (c 57) (c 58), hR.2.2.2.2.2.2.2.2.2.1.mono (hch.sm (hX 9 1 (by omega))) (m 20 (by omega) (by omega)) (m 21 (by omega) (by omega)) (c 1), hR.2.2.2.2.2.2.2.2.2.2.mono (fun k i z hc => hch.lst (hL k i z) hc) (m 18 (by omega) (by omega)) (m 19 (by omega) (by omega)) (m 41 (by omega) (by omega)) (m 42 (by omega) (by omega)) (c 22) (c 29) (c 46)⟩
      · intro x hx
        rw [show nBt M2 = nBt (mSet M 0 0) by unfold nBt; rw [c 29]] at hx
        obtain ⟨h0, h200, h201, h202, h203, h204, h205, h206, h207, h208, h209, h210, h211, h213, h214⟩ := hR.2.2.2.2.2.1 x hx
        have ed : (d 4 x = d 4 s) = (x = s) := propext ⟨fun y => (hd _ _ _ _ y).2, fun y => by rw [y]⟩
        refine ⟨(hch.2.2.1 _).trans h0, ?_⟩
        rw [← hS2, ← hM2]
        by_cases q : x = s
        · subst q
          simp only [cFi_setI, cFr_setI, cFi_setR, cFr_setR, cFi_ast, cFr_ast, cRi_ast, cRi_setI, cRi_setR, mAst_2, mSet_1, eq_self, Nat.reduceEqDiff, and_false, false_and, and_true, true_and, and_self, if_true, if_false, not_true_eq_false, not_false_eq_true, false_implies, true_implies, implies_true, ed]
          exact ⟨h200, h201, h202, h203, h204, h205, h206, h207, h208, h209, (fun z => (if_pos z).symm), h213, h214⟩
        · simp only [cFi_setI, cFr_setI, cFi_setR, cFr_setR, cFi_ast, cFr_ast, cRi_ast, cRi_setI, cRi_setR, mAst_2, mSet_1, eq_self, Nat.reduceEqDiff, and_false, false_and, and_true, true_and, and_self, if_true, if_false, not_true_eq_false, not_false_eq_true, false_implies, true_implies, implies_true, ed, q]
          exact ⟨h200, h201, h202, h203, h204, h205, h206, h207, h208, h209, h210, h211, h213, h214⟩
      · intro x hx v hv
        rw [show nBt M2 = nBt (mSet M 0 0) by unfold nBt; rw [c 29]] at hx
        rw [m 45 (by omega) (by omega), ← hS2, cFi_setI, if_neg (by omega), cFi_setI, if_neg (by omega)]
        exact hR.2.2.2.2.2.2.1 x hx v hv
    have hi2 : iAll M2 := by
      refine ⟨hi.1.mono  (c 29) (c 22) (c 46), hi.2.1.mono (m 9 (by omega) (by omega)) (m 7 (by omega) (by omega)) (m 5 (by omega) (by omega)) (m 15 (by omega) (by omega)) , hi.2.2.1.mono (m 18 (by omega) (by omega)) (m 17 (by omega) (by omega)) (m 19 (by omega) (by omega)) (m 28 (by omega) (by omega)) (m 27 (by omega) (by omega)) (c 22), hi.2.2.2.1.mono (m 42 (by omega) (by omega)) (m 40 (by omega) (by omega)) (m 41 (by omega) (by omega)) (m 28 (by omega) (by omega)) (c 29) (c 22), hi.2.2.2.2.1.mono (m 28 (by omega) (by omega)) (m 27 (by omega) (by omega)) (m 18 (by omega) (by omega)) (m 19 (by omega) (by omega)) (m 42 (by omega) (by omega)) (m 41 (by omega) (by omega)) (m 24 (by omega) (by omega)) (m 25 (by omega) (by omega)) (m 23 (by omega) (by omega)) (c 22) (c 29) (c 46), hi.2.2.2.2.2.1.mono (m 47 (by omega) (by omega)) (m 48 (by omega) (by omega)) (m 49 (by omega) (by omega)) (m 51 (by omega) (by omega)) (c 46), ?_, hi.2.2.2.2.2.2.2.1.mono (m 45 (by omega) (by omega)) (c 29), hi.2.2.2.2.2.2.2.2.1.mono (m 32 (by omega) (by omega)) (m 39 (by omega) (by omega)) (m 42 (by omega) (by omega)) (m 43 (by omega) (by omega)) (m 44 (by omega) (by omega)) (m 53 (by omega) (by omega)) (m 54 (by omega) (by omega)) (m 55 (by omega) (by omega)) (m 35 (by omega) (by omega)) (c 29) (c 46), hi.2.2.2.2.2.2.2.2.2.mono (m 20 (by omega) (by omega)) (c 1) (c 4)⟩
      · intro w hw
        rw [show nBt M2 = nBt (mSet M 0 0) by unfold nBt; rw [c 29]] at hw
        obtain ⟨b1, b2, b3⟩ := hi.2.2.2.2.2.2.1 w hw
        rw [m 35 (by omega) (by omega), m 34 (by omega) (by omega), m 33 (by omega) (by omega), m 36 (by omega) (by omega)]
        rw [← hM2, mAst_ne (by omega), mAst_eq]
        by_cases q : w = s
        · subst q
          rw [if_pos rfl]
          exact ⟨hv, b2, b3.imp (fun z => ⟨z.1, z.2.1, hv2 z.1 z.2.1⟩) id⟩
        · rw [if_neg q]
          exact ⟨b1, b2, b3⟩
    have hE : RR W9 (B + 15) (d 9 0) S2 M2 := by
      have n29b : nBt M2 = nBt (mSet M 0 0) := by unfold nBt; rw [c 29]
      have hat := ways_at (M := mSet M 0 0) (M2 := M2) (w := s) (nBt (mSet M 0 0)) hs (fun v hv hne => way_of (by rw [m 34 (by omega) (by omega)]) (by rw [← hM2, mAst_ne (by omega), mAst_eq, if_neg hne]) (by rw [m 33 (by omega) (by omega)]) (by rw [m 35 (by omega) (by omega)]))
      have hle := way_le hi2 (w := s) (by rw [n29b]; exact hs)
      exact ⟨d, np, N, RRd_step2 (e := 15) h0d hR2 hi2 (by omega) (Nat.le_refl _) hB15 hch (hX 9 2 (by omega)) (fun i => hX 11 i (by omega)) (fun i => hX 12 i (by omega)) (c 22) (c 29) (m 27 (by omega) (by omega)) (m 28 (by omega) (by omega)) (m 33 (by omega) (by omega)) (m 34 (by omega) (by omega))⟩
    have hE0 : M2.1 0 = 0 := by rw [← hM2]; first | rfl | simp [mAst_1, mSet_1]
    exact hk _ _ (ans_1 hE (by rw [ho', hM2]) hE0 rfl)

theorem Q_radio {W9 : xWd} {B a : Nat} {S : cS} {M : mS} {k : Int32} {y : Int32} {z : Int32} {K : xRes → cS → Prop} (h : RR W9 B a S M) (hz : z = 0 ∨ z = 1) (hk : ∀ r S2, ans [eB, eA] W9 B a (oRadio M k y z) r S2 → K r S2) : (spX7_radio W9).2 [.ref a, .int k, .int y, .int z] S K := by
  have h0 := RR_set0 (z := 0) h
  have h00 := h0
  obtain ⟨d, np, N, h0d⟩ := h00
  have h0e := h0d
  obtain ⟨hd, rfl, hi, hR, hp, hl, hN, hB⟩ := h0e
  have g0 := hR.2.2.2.2.2.2.2.2.1.1
  obtain ⟨g7, g8, g9, g10, g11, g12, g13⟩ := hR.2.2.2.2.2.2.2.2.1.2.2
  have e29 : M.1 29 = nI (nBt M) := hi.1.1.1
  have e22 : M.1 22 = nI (nBg M) := hi.1.2.1.1
  have e46 : M.1 46 = nI (nCo M) := hi.1.2.2.1
  have b29 : nBt M ≤ 6 := hi.1.1.2
  have b22 : nBg M ≤ 24 := hi.1.2.1.2
  have b46 : nCo M ≤ 12 := hi.1.2.2.2
  have n29 : nBt (mSet M 0 0) = nBt M := rfl
  have n22 : nBg (mSet M 0 0) = nBg M := rfl
  have n46 : nCo (mSet M 0 0) = nCo M := rfl
  obtain ⟨f1, f2, f3, f4, f5, f6⟩ := R0_boats hR
  rw [n29] at f4 f5 f6
  have e1 : ((0 ≤ k ∧ k < nI (nBt M)) ∧ 0 ≤ y ∧ y < nI (nBt M)) = ((0 ≤ k ∧ k ≤ M.1 29 - 1) ∧ 0 ≤ y ∧ y ≤ M.1 29 - 1) := by rw [e29, le_m1 (by omega), le_m1 (by omega)]
  rw [spwX7_radio, f2, f5, e1]
  refine ⟨hz, g0, ⟨f1, f3⟩, fun q => hk _ _ (ans_e h (z := 1) ?_ (by decide) rfl), fun v => ?_⟩
  · unfold oRadio
    rw [if_pos q]
  · have y0 := v
    rw [← e1, idx (by omega), idx (by omega)] at v
    obtain ⟨⟨s, hs, rfl⟩, ⟨t, ht, rfl⟩⟩ := v
    rw [ix_nI (show s < 1000 by omega), ix_nI (show t < 1000 by omega), f6 s hs, f6 t ht]
    have e2 : (d 4 s = d 4 t) = (s = t) := propext ⟨fun y => (hd _ _ _ _ y).2, fun y => by rw [y]⟩
    have e3 : (nI s = nI t) = (s = t) := eq_nI (by omega) (by omega)
    have s200 := (hR.2.2.2.2.2.1 s hs).2.1
    have t200 := (hR.2.2.2.2.2.1 t ht).2.1
    have hag := hR.2.2.2.2.2.2.1 s hs t (by omega)
    have hag : (cFi S (d 4 s) 212 &&& 1 <<< (nI t &&& 31) = 0) = (M.2 45 (6 * s + t) = 0) := hag
    have h01 := (hi.2.2.2.2.2.2.2.1 s t (by omega) (by omega)).1
    have h01 : M.2 45 (6 * s + t) = 0 ∨ M.2 45 (6 * s + t) = 1 := h01
    have ho' : oRadio M (nI s) (nI t) z = if s = t then (0, mSet M 0 2) else (M.2 45 (6 * s + t), mAst (mAst (mSet M 0 0) 45 (6 * s + t) z) 45 (6 * t + s) z) := by
      unfold oRadio
      rw [if_neg (not_not_intro y0)]
      simp only [e3]
      rw [m6_nI, m6_nI, add_nI, add_nI, ix_nI (show 6 * s + t < 1000 by omega), ix_nI (show 6 * t + s < 1000 by omega)]
    refine ⟨fun q => hk _ _ (ans_e h (z := 2) ?_ (by decide) rfl), fun q => ?_⟩
    · rw [ho', if_pos (by rw [← e2]; exact Classical.not_not.mp q)]
    · rw [e2] at q
      rw [if_neg q] at ho'
      have e212 : ∀ x, cFi (cSetI S (d 4 s) 212 x) (d 4 t) 212 = cFi S (d 4 t) 212 := fun x => by rw [cFi_setI, if_neg (fun w => q ((hd _ _ _ _ w.1).2.symm))]
      have hval : bi (¬ (cFi S (d 4 s) 212 &&& 1 <<< (nI t &&& 31) = 0)) = M.2 45 (6 * s + t) := by
        rcases h01 with w | w
        · rw [w]; exact bi_f (not_not_intro (by rw [hag]; exact w))
        · rw [w]; exact bi_t (by rw [hag, w]; decide)
      have hX : ∀ (k i : Nat), k ≠ 4 → ¬ (d k i = d 4 s ∨ d k i = d 4 t) := fun k i a w => w.elim (fun w => a (hd _ _ _ _ w).1) (fun w => a (hd _ _ _ _ w).1)
      have key : ∀ x1 x2 : Int32, R0 W9 d (cSetI (cSetI S (d 4 s) 212 x1) (d 4 t) 212 x2) (mAst (mAst (mSet M 0 0) 45 (6 * s + t) z) 45 (6 * t + s) z) → K (rI (M.2 45 (6 * s + t))) (cSetI (cSetI S (d 4 s) 212 x1) (d 4 t) 212 x2) := fun x1 x2 hR2 => by
        have hch : chg S (cSetI (cSetI S (d 4 s) 212 x1) (d 4 t) 212 x2) (fun b => b = d 4 s ∨ b = d 4 t) := (chg.rf.sI (Or.inl rfl)).sI (Or.inr rfl)
        generalize hM2 : mAst (mAst (mSet M 0 0) 45 (6 * s + t) z) 45 (6 * t + s) z = M2 at *
        have m : ∀ k, k ≠ 45 → M2.2 k = (mSet M 0 0).2 k := fun k a => by rw [← hM2, mAst_ne a, mAst_ne a]
        have c : ∀ k, M2.1 k = (mSet M 0 0).1 k := fun k => by rw [← hM2]; rfl
        have hi2 : iAll M2 := ⟨hi.1.mono (c 29) (c 22) (c 46), hi.2.1.mono (m 9 (by omega)) (m 7 (by omega)) (m 5 (by omega)) (m 15 (by omega)), hi.2.2.1.mono (m 18 (by omega)) (m 17 (by omega)) (m 19 (by omega)) (m 28 (by omega)) (m 27 (by omega)) (c 22), hi.2.2.2.1.mono (m 42 (by omega)) (m 40 (by omega)) (m 41 (by omega)) (m 28 (by omega)) (c 29) (c 22), hi.2.2.2.2.1.mono (m 28 (by omega)) (m 27 (by omega)) (m 18 (by omega)) (m 19 (by omega)) (m 42 (by omega)) (m 41 (by omega)) (m 24 (by omega)) (m 25 (by omega)) (m 23 (by omega)) (c 22) (c 29) (c 46), hi.2.2.2.2.2.1.mono (m 47 (by omega)) (m 48 (by omega)) (m 49 (by omega)) (m 51 (by omega)) (c 46), hi.2.2.2.2.2.2.1.mono (m 37 (by omega)) (m 35 (by omega)) (m 34 (by omega)) (m 33 (by omega)) (m 36 (by omega)) (c 29), ?_, hi.2.2.2.2.2.2.2.2.1.mono (m 32 (by omega)) (m 39 (by omega)) (m 42 (by omega)) (m 43 (by omega)) (m 44 (by omega)) (m 53 (by omega)) (m 54 (by omega)) (m 55 (by omega)) (m 35 (by omega)) (c 29) (c 46), hi.2.2.2.2.2.2.2.2.2.mono (m 20 (by omega)) (c 1) (c 4)⟩
        · have hw : ways M2 (nBt (mSet M 0 0)) = ways (mSet M 0 0) (nBt (mSet M 0 0)) := ways_same _ (fun v _ => way_of (by rw [m 34 (by omega)]) (by rw [m 37 (by omega)]) (by rw [m 33 (by omega)]) (by rw [m 35 (by omega)]))
          have hE : RR W9 B (d 9 0) (cSetI (cSetI S (d 4 s) 212 x1) (d 4 t) 212 x2) M2 := ⟨d, np, N, (RRd_step h0d hR2 hi2 hw hch (hX 9 2 (by omega)) (fun i => hX 11 i (by omega)) (fun i => hX 12 i (by omega)) (c 22) (c 29) (m 27 (by omega)) (m 28 (by omega)) (m 33 (by omega)) (m 34 (by omega))).1⟩
          exact hk _ _ (ans_1 hE (by rw [ho']) (by rw [c]; exact mSet_eq) rfl)
        · intro a b ha hb
          obtain ⟨j1, j2, j3⟩ := hi.2.2.2.2.2.2.2.1 a b ha hb
          have j4 := hi.2.2.2.2.2.2.2.1 b a hb ha
          have n2b : nBt M2 = nBt M := by unfold nBt; rw [c 29]; rfl
          rw [n2b, ← hM2, mAst_eq, mAst_eq, mAst_eq, mAst_eq]
          rw [n29] at j3
          by_cases w1 : a = s ∧ b = t
          · rw [if_neg (by omega), if_pos (by omega), if_pos (by omega)]
            exact ⟨hz, rfl, fun _ => by omega⟩
          · by_cases w2 : a = t ∧ b = s
            · rw [if_pos (by omega), if_neg (by omega), if_pos (by omega)]
              exact ⟨hz, rfl, fun _ => by omega⟩
            · rw [if_neg (by omega), if_neg (by omega), if_neg (by omega), if_neg (by omega)]
              exact ⟨j1, j2, j3⟩
      rw [s200, t200, hval]
      rcases hz with rfl | rfl
      · rw [if_pos rfl, if_pos rfl]
        refine key _ _ ?_
        have r1 := R0_dis hd hR hs b29 (v := t) (by omega)
        have r2 := R0_dis hd r1 (w := t) ht b29 (v := s) (by omega)
        rw [e212] at r2
        exact r2
      · rw [if_neg (by decide), if_neg (by decide)]
        refine key _ _ ?_
        have r1 := R0_agr hd hR hs b29 (v := t) (by omega)
        have r2 := R0_agr hd r1 (w := t) ht b29 (v := s) (by omega)
        rw [e212] at r2
        exact r2

