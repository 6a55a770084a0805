/-! The class's answers are the reference's: to load. -/
theorem fit_dec : ∀ a, a < 3 → ∀ b, b < 3 → ((if nI a = 2 then nI b = 2 else nI b = 1 ∨ (nI b = 0 ∧ nI a = 0)) ↔ (if nI a = 2 then nI b = 2 else if nI a = 1 then nI b = 1 else nI b ≠ 2)) := by decide +kernel
theorem in_3 {x : Int32} (h1 : 0 ≤ x) (h2 : x ≤ 2) : ∃ j, j < 3 ∧ x = nI j := by
  obtain ⟨j, j1, j2, e⟩ := in_1n (a := 0) (b := 2) h1 h2 (by omega) (by omega)
  exact ⟨j, by omega, e⟩

theorem Q_load {W9 : xWd} {B a : Nat} {S : cS} {M : mS} {b : Int32} {k : Int32} {u : Int32} {K : xRes → cS → Prop} (h : RR W9 B a S M) (hk : ∀ r S2, ans [eB, eA, eS] W9 B a (oLoad M b k u) r S2 → K r S2) : (spX7_load W9).2 [.ref a, .int b, .int k, .int u] S K := by
  have h0 := RR_set0 (z := 0) h
  have h00 := h0
  obtain ⟨d, np, N, h0d⟩ := h00
  have h0e := h0d
  obtain ⟨hd, rfl, hi, hR, hp, hl, hN, hB⟩ := h0e
  have g0 := hR.2.2.2.2.2.2.2.2.1.1
  obtain ⟨g7, g8, g9, g10, g11, g12, g13⟩ := hR.2.2.2.2.2.2.2.2.1.2.2
  have e29 : M.1 29 = nI (nBt M) := hi.1.1.1
  have e22 : M.1 22 = nI (nBg M) := hi.1.2.1.1
  have e46 : M.1 46 = nI (nCo M) := hi.1.2.2.1
  have b29 : nBt M ≤ 6 := hi.1.1.2
  have b22 : nBg M ≤ 24 := hi.1.2.1.2
  have b46 : nCo M ≤ 12 := hi.1.2.2.2
  have n29 : nBt (mSet M 0 0) = nBt M := rfl
  have n22 : nBg (mSet M 0 0) = nBg M := rfl
  have n46 : nCo (mSet M 0 0) = nCo M := rfl
  obtain ⟨f1, f2, f3, f4, f5, f6⟩ := R0_barges hR
  rw [n22] at f4 f5 f6
  obtain ⟨s1, s2, s3, s4, s5, s6⟩ := R0_cons hR
  rw [n46] at s4 s5 s6
  have a805 := hR.2.2.2.2.2.2.2.2.1.2.1.2.2.2.2.2.1
  have e805 : cRf S (d 9 0) 805 = d 9 1 := by unfold cRf; rw [a805]; rfl
  obtain ⟨r0, r1, r2⟩ := hR.2.2.2.2.2.2.2.2.2.1
  have e1 : ((0 ≤ b ∧ b < nI (nBg M)) ∧ 0 ≤ k ∧ k < nI (nCo M)) = ((0 ≤ b ∧ b ≤ M.1 22 - 1) ∧ 0 ≤ k ∧ k ≤ M.1 46 - 1) := by rw [e22, e46, le_m1 (by omega), le_m1 (by omega)]
  rw [spwX7_load, f2, f5, s2, s5, e805, e1]
  have hgk : ∀ j, j < lCn S (d 6 2) → gOk S (lG S (d 6 2) j) := fun j hj => by
    rw [f4] at hj
    rw [f6 j hj]
    exact R0_gOk hd hR hi hj
  have hck : ∀ j, j < lCn S (d 6 3) → vp_in (cFi S (lG S (d 6 3) j) 302) 8 := fun j hj => by
    rw [s4] at hj
    rw [s6 j hj, (hR.2.2.2.2.1 j hj).2.2.2.1]
    exact (hi.2.2.2.2.2.1 j hj).2.1
  refine ⟨g0, ⟨f1, f3⟩, ⟨s1, s3⟩, hgk, ⟨⟨by rw [e805]; exact a805, by rw [e805]; exact r0⟩, r1⟩, hck, fun q => hk _ _ (ans_e h (z := 1) ?_ (by decide) rfl), fun v => ⟨fun q => hk _ _ (ans_e h (z := 2) ?_ (by decide) rfl), fun y2 => ?_⟩⟩
  · unfold oLoad
    rw [if_pos q]
  · unfold oLoad
    rw [if_neg (not_not_intro v), if_pos q]
  · have y0 := v
    rw [← e1, idx (by omega), idx (by omega)] at v
    obtain ⟨⟨g, hg, rfl⟩, ⟨s, hs, rfl⟩⟩ := v
    obtain ⟨v0, v1, -⟩ := hi.2.2.2.2.2.1 s hs
    obtain ⟨j, hj8, ej, -⟩ := nx_nat v1 (by omega)
    have ej : M.2 48 s = nI j := ej
    have hB := hR.2.2.2.1 g hg
    have hC := hR.2.2.2.2.1 s hs
    have e101 : cFi S (d 2 g) 101 = M.2 23 g := hB.2.2.1
    have e103 : cFi S (d 2 g) 103 = M.2 24 g := hB.2.2.2.2.1
    have e105 : cFi S (d 2 g) 105 = M.2 26 g := hB.2.2.2.2.2.2
    have e301 : cFi S (d 3 s) 301 = M.2 47 s := hC.2.2.1
    have e302 : cFi S (d 3 s) 302 = nI j := hC.2.2.2.1.trans ej
    have e304 : cFi S (d 3 s) 304 = M.2 50 s - mInB M (nI s) (nBg M) - M.2 53 s := by
      have := hC.2.2.2.2.2.1
      have e : ∀ n, mInB (mSet M 0 0) (nI s) n = mInB M (nI s) n := mInB_eq (M := M) (M2 := mSet M 0 0) rfl rfl _
      rw [e] at this
      exact this
    have erow : cRi S (d 9 1) j = (if M.2 20 j = M.1 1 then M.2 21 j else 0) := by
      rw [r2 j hj8]
      unfold mInH
      rw [ix_nI (show j < 1000 by omega)]
      rfl
    have hgo : gOut S (d 2 g) (nI j) ↔ (M.2 28 g = -1 ∧ M.2 27 g / 2 = nI j ∧ mOut M (nI g) (mPlc M (nI g)) = 0) := R0_gOut hd hR hi hg (nI j)
    have h104 := R0_104 hR hi hg
    have hbt := (hi.2.2.2.2.1 g hg).2.2
    obtain ⟨ka, hka, eka⟩ := in_3 v0.1 v0.2
    obtain ⟨kb, hkb, ekb⟩ := in_3 hbt.1 hbt.2
    have eka : M.2 47 s = nI ka := eka
    have ekb : M.2 23 g = nI kb := ekb
    have hfd := fit_dec ka hka kb hkb
    rw [← eka, ← ekb] at hfd
    have h104' : (cFr S (d 2 g) 104 = none ∨ cFr S (d 2 g) 104 = some (d 3 s)) ↔ (M.2 24 g = 0 ∨ M.2 25 g = nI s) := by
      rcases h104 with ⟨z1, z2, z3⟩ | ⟨z0, -, c, hc, ec, z3⟩
      · exact ⟨fun _ => Or.inl z1, fun _ => Or.inl z3⟩
      · have ec : M.2 25 g = nI c := ec
        rw [z3, ec]
        have hc12 : c < nCo M := hc
        refine ⟨fun w => w.elim (fun w => nomatch w) (fun w => Or.inr ?_), fun w => w.elim (fun w => absurd w z0) (fun w => Or.inr ?_)⟩
        · rw [(hd _ _ _ _ (Option.some.inj w)).2]
        · rw [eq_nI (by omega) (by omega)] at w
          rw [w]
    have hoA : ¬ mCan M (nI g) (nI s) u (mPlc M (nI g)) (nBg M) → oLoad M (nI g) (nI s) u = (0, mSet M 0 3) := fun w => by
      unfold oLoad
      rw [if_neg (not_not_intro y0), if_neg (not_not_intro y2), if_pos w]
    have hoB : mCan M (nI g) (nI s) u (mPlc M (nI g)) (nBg M) → oLoad M (nI g) (nI s) u = (M.2 24 g + u, mAst (mAst (mAst (mAst (mAst (mSet M 0 0) 21 j ((if M.2 20 j = M.1 1 then M.2 21 j else 0) + u)) 20 j (M.1 1)) 24 g (M.2 24 g + u)) 25 g (nI s)) 26 g (M.2 47 s)) := fun w => by
      unfold oLoad
      rw [if_neg (not_not_intro y0), if_neg (not_not_intro y2), if_neg (not_not_intro w), ix_nI (show g < 1000 by omega), ix_nI (show s < 1000 by omega), ej, ix_nI (show j < 1000 by omega)]
    have hcan : mCan M (nI g) (nI s) u (mPlc M (nI g)) (nBg M) ↔ (((gOut S (d 2 g) (nI j)) ∧ gFit S (d 2 g) (d 3 s)) ∧ (M.2 24 g + u ≤ 12 ∧ u ≤ cFi S (d 3 s) 304) ∧ cRi S (d 9 1) j + u ≤ 12) := by
      unfold mCan gFit
      rw [hgo, h104', ix_nI (show g < 1000 by omega), ix_nI (show s < 1000 by omega), ej, ix_nI (show j < 1000 by omega), e304, erow, e101, e105, e301]
      constructor
      · rintro ⟨w1, w2, w3, w4, w5, w6, w7⟩
        exact ⟨⟨w1, hfd.mpr w2, w3, w4⟩, ⟨w5, w6⟩, w7⟩
      · rintro ⟨⟨w1, w2, w3, w4⟩, ⟨w5, w6⟩, w7⟩
        exact ⟨w1, hfd.mp w2, w3, w4, w5, w6, w7⟩
    rw [ix_nI (show g < 1000 by omega), ix_nI (show s < 1000 by omega), f6 g hg, s6 s hs, e302, e103, ix_nI (show j < 1000 by omega)]
    refine ⟨fun q => hk _ _ (ans_e h (z := 3) ?_ (by decide) rfl), fun q => ?_⟩
    · exact hoA (fun w => q (hcan.mp w))
    · have hcn := hcan.mpr q
      have h25 : M.2 24 g = 0 ∨ M.2 25 g = nI s := by
        have := hcn.2.2.2.1
        rw [ix_nI (show g < 1000 by omega)] at this
        exact this
      have hsum : 1 ≤ M.2 24 g + u ∧ M.2 24 g + u ≤ 12 := by
        refine ⟨?_, q.2.1.1⟩
        obtain ⟨x, x1, x2, ex⟩ := in_1n (a := 1) (b := 12) y2.1 y2.2 (by omega) (by omega)
        have : ∃ y, y ≤ 12 ∧ M.2 24 g = nI y := by
          rcases h104 with ⟨z1, -⟩ | ⟨-, ⟨z1, z2⟩, -⟩
          · exact ⟨0, by omega, z1⟩
          · obtain ⟨y, _, y2, ey⟩ := in_1n (a := 1) (b := 12) z1 z2 (by omega) (by omega)
            exact ⟨y, y2, ey⟩
        obtain ⟨y, hy, ey⟩ := this
        rw [ex, ey, add_nI, show (1 : Int32) = nI 1 from rfl, le_nI (by omega) (by omega)]
        omega
      have ho' := hoB hcn
      have hcu : cLoad S (d 2 g) (d 3 s) (d 9 1) j u = cSetI (cSetR (cSetI (cSetI (cSetI (cAst S (d 9 1) j (cRi S (d 9 1) j + u)) (d 3 s) 304 (cFi S (d 3 s) 304 - u)) (d 3 s) 307 (cFi S (d 3 s) 307 + u)) (d 2 g) 103 (M.2 24 g + u)) (d 2 g) 104 (some (d 3 s))) (d 2 g) 105 (M.2 47 s) := by
        unfold cLoad
        rw [e103, e301]
      rw [hcu]
      have n32 : ∀ x y, (d 3 x = d 2 y) = False := fun x y => eq_false (hd.ne (by omega))
      have n23 : ∀ x y, (d 2 x = d 3 y) = False := fun x y => eq_false (hd.ne (by omega))
      generalize hM2 : mAst (mAst (mAst (mAst (mAst (mSet M 0 0) 21 j ((if M.2 20 j = M.1 1 then M.2 21 j else 0) + u)) 20 j (M.1 1)) 24 g (M.2 24 g + u)) 25 g (nI s)) 26 g (M.2 47 s) = M2
      have m : ∀ k, k ≠ 21 → k ≠ 20 → k ≠ 24 → k ≠ 25 → k ≠ 26 → M2.2 k = (mSet M 0 0).2 k := by
        intro k a0 a1 a2 a3 a4
        rw [← hM2]
        first | rfl | (simp only [mAst_2]; funext n; repeat rw [if_neg (fun z => by omega)]) | (funext n; simp only [mAst_2, mSet_2]; repeat rw [if_neg (fun z => by omega)])
      have c : ∀ k, M2.1 k = (mSet M 0 0).1 k := by
        intro k 
        rw [← hM2]
        first | rfl | (simp only [mAst_1, mSet_1]; repeat rw [if_neg (by omega)]) | (repeat rw [mSet_ne (by omega)]; rfl) | (repeat rw [mSet_ne (by omega)])
      generalize hS2 : cSetI (cSetR (cSetI (cSetI (cSetI (cAst S (d 9 1) j (cRi S (d 9 1) j + u)) (d 3 s) 304 (cFi S (d 3 s) 304 - u)) (d 3 s) 307 (cFi S (d 3 s) 307 + u)) (d 2 g) 103 (M.2 24 g + u)) (d 2 g) 104 (some (d 3 s))) (d 2 g) 105 (M.2 47 s) = S2
      have hch : chg S S2 (fun b => b = d 9 1 ∨ b = d 3 s ∨ b = d 2 g) := by
        rw [← hS2]
        exact (chg.sI (X := (fun b => b = d 9 1 ∨ b = d 3 s ∨ b = d 2 g)) (chg.sR (X := (fun b => b = d 9 1 ∨ b = d 3 s ∨ b = d 2 g)) (chg.sI (X := (fun b => b = d 9 1 ∨ b = d 3 s ∨ b = d 2 g)) (chg.sI (X := (fun b => b = d 9 1 ∨ b = d 3 s ∨ b = d 2 g)) (chg.sI (X := (fun b => b = d 9 1 ∨ b = d 3 s ∨ b = d 2 g)) (chg.ast (X := (fun b => b = d 9 1 ∨ b = d 3 s ∨ b = d 2 g)) (chg.rf (X := (fun b => b = d 9 1 ∨ b = d 3 s ∨ b = d 2 g))) (Or.inl rfl)) (Or.inr (Or.inl rfl))) (Or.inr (Or.inl rfl))) (Or.inr (Or.inr rfl))) (Or.inr (Or.inr rfl))) (Or.inr (Or.inr rfl)))
      have hX : ∀ (k i : Nat), ¬ (k = 9 ∧ i = 1) ∧ ¬ (k = 3 ∧ i = s) ∧ ¬ (k = 2 ∧ i = g) → ¬ (fun b => b = d 9 1 ∨ b = d 3 s ∨ b = d 2 g) (d k i) := fun k i z y => y.elim (fun y => z.1 (hd _ _ _ _ y)) (fun y => y.elim (fun y => z.2.1 (hd _ _ _ _ y)) (fun y => z.2.2 (hd _ _ _ _ y)))
      have hL : ∀ k i, isL (mSet M 0 0) k i → ¬ (fun b => b = d 9 1 ∨ b = d 3 s ∨ b = d 2 g) (d k i) := fun k i z => hX k i (by rcases z with ⟨rfl, _⟩ | ⟨rfl, _⟩ | ⟨rfl, _⟩ <;> omega)
      have hR2 : R0 W9 d S2 M2 := by
        refine ⟨hR.1.mono (fun z _ => hch.sm (hX 0 z (by omega))) (m 5 (by omega) (by omega) (by omega) (by omega) (by omega)) (m 6 (by omega) (by omega) (by omega) (by omega) (by omega)) (m 7 (by omega) (by omega) (by omega) (by omega) (by omega)) (m 8 (by omega) (by omega) (by omega) (by omega) (by omega)) (m 9 (by omega) (by omega) (by omega) (by omega) (by omega)) (m 10 (by omega) (by omega) (by omega) (by omega) (by omega)) (m 11 (by omega) (by omega) (by omega) (by omega) (by omega)) (m 12 (by omega) (by omega) (by omega) (by omega) (by omega)) (m 13 (by omega) (by omega) (by omega) (by omega) (by omega)) (m 14 (by omega) (by omega) (by omega) (by omega) (by omega)) (m 15 (by omega) (by omega) (by omega) (by omega) (by omega)) (m 16 (by omega) (by omega) (by omega) (by omega) (by omega)) , hR.2.1.mono (fun z _ => hch.sm (hX 1 z (by omega))) (m 17 (by omega) (by omega) (by omega) (by omega) (by omega)) , hR.2.2.1.mono (fun z _ => hch.sm (hX 5 z (by omega))) (m 40 (by omega) (by omega) (by omega) (by omega) (by omega)) (c 29), ?_, ?_, hR.2.2.2.2.2.1.mono (fun z _ => hch.sm (hX 4 z (by omega))) (m 30 (by omega) (by omega) (by omega) (by omega) (by omega)) (m 31 (by omega) (by omega) (by omega) (by omega) (by omega)) (m 32 (by omega) (by omega) (by omega) (by omega) (by omega)) (m 33 (by omega) (by omega) (by omega) (by omega) (by omega)) (m 34 (by omega) (by omega) (by omega) (by omega) (by omega)) (m 35 (by omega) (by omega) (by omega) (by omega) (by omega)) (m 36 (by omega) (by omega) (by omega) (by omega) (by omega)) (m 37 (by omega) (by omega) (by omega) (by omega) (by omega)) (m 38 (by omega) (by omega) (by omega) (by omega) (by omega)) (m 39 (by omega) (by omega) (by omega) (by omega) (by omega)) (m 43 (by omega) (by omega) (by omega) (by omega) (by omega)) (c 29), hR.2.2.2.2.2.2.1.mono (fun z _ => hch.sm (hX 4 z (by omega))) (m 45 (by omega) (by omega) (by omega) (by omega) (by omega)) (c 29), hR.2.2.2.2.2.2.2.1.mono (fun z _ => hch.sm (hX 10 z (by omega))) (m 44 (by omega) (by omega) (by omega) (by omega) (by omega)) (c 29), hR.2.2.2.2.2.2.2.2.1.mono (hch.sm (hX 9 0 (by omega)))  (c 1) (c 2) (c 3) (c 4) (c 56) (c 57) (c 58), ?_, hR.2.2.2.2.2.2.2.2.2.2.mono (fun k i z hc => hch.lst (hL k i z) hc) (m 18 (by omega) (by omega) (by omega) (by omega) (by omega)) (m 19 (by omega) (by omega) (by omega) (by omega) (by omega)) (m 41 (by omega) (by omega) (by omega) (by omega) (by omega)) (m 42 (by omega) (by omega) (by omega) (by omega) (by omega)) (c 22) (c 29) (c 46)⟩
        · intro x hx
          rw [show nBg M2 = nBg (mSet M 0 0) by unfold nBg; rw [c 22]] at hx
          obtain ⟨h0, h100, h101, h102, h103, h104, h105⟩ := hR.2.2.2.1 x hx
          have ed : (d 2 x = d 2 g) = (x = g) := propext ⟨fun y => (hd _ _ _ _ y).2, fun y => by rw [y]⟩
          refine ⟨(hch.2.2.1 _).trans h0, ?_⟩
          rw [← hS2, ← hM2]
          by_cases q : x = g
          · subst q
            simp only [cFi_setI, cFr_setI, cFi_setR, cFr_setR, cFi_ast, cFr_ast, cRi_ast, cRi_setI, cRi_setR, mAst_2, mSet_1, eq_self, Nat.reduceEqDiff, and_false, false_and, and_true, true_and, and_self, if_true, if_false, not_true_eq_false, not_false_eq_true, false_implies, true_implies, implies_true, ed, n23]
            refine ⟨h100, h101, h102, ?_⟩
            rw [if_neg (nI_m1 (by omega)), ix_nI (by omega)]
          · simp only [cFi_setI, cFr_setI, cFi_setR, cFr_setR, cFi_ast, cFr_ast, cRi_ast, cRi_setI, cRi_setR, mAst_2, mSet_1, eq_self, Nat.reduceEqDiff, and_false, false_and, and_true, true_and, and_self, if_true, if_false, not_true_eq_false, not_false_eq_true, false_implies, true_implies, implies_true, ed, q, n23]
            exact ⟨h100, h101, h102, h103, h104, h105⟩
        · intro x hx
          rw [show nCo M2 = nCo (mSet M 0 0) by unfold nCo; rw [c 46]] at hx
          rw [n46] at hx
          obtain ⟨h0, h300, h301, h302, h303, h304, h305, h306, h307, h308, h309, h310⟩ := hR.2.2.2.2.1 x hx
          have ed : (d 3 x = d 3 s) = (x = s) := propext ⟨fun y => (hd _ _ _ _ y).2, fun y => by rw [y]⟩
          have hb := mInB_at (M := mSet M 0 0) (M2 := M2) (c := nI x) (g := g) (nBg M) hg (fun k hk hne => ⟨by rw [← hM2, mAst_ne (by omega), mAst_ne (by omega), mAst_eq, if_neg hne, mAst_ne (by omega), mAst_ne (by omega)], by rw [← hM2, mAst_ne (by omega), mAst_eq, if_neg hne, mAst_ne (by omega), mAst_ne (by omega), mAst_ne (by omega)]⟩)
          have e25 : M2.2 25 g = nI s := by rw [← hM2, mAst_ne (by omega), mAst_eq, if_pos rfl]
          have e24 : M2.2 24 g = M.2 24 g + u := by rw [← hM2, mAst_ne (by omega), mAst_ne (by omega), mAst_eq, if_pos rfl]
          have n22b : nBg M2 = nBg M := by unfold nBg; rw [c 22]; rfl
          have n39 : (d 3 x = d 9 1) = False := eq_false (hd.ne (by omega))
          refine ⟨(hch.2.2.1 _).trans h0, ?_⟩
          by_cases q2 : x = s
          · subst q2
            have w1 : (if M2.2 25 g = nI x then M2.2 24 g else 0) = M.2 24 g + u := by rw [if_pos e25, e24]
            have w2 : (if (mSet M 0 0).2 25 g = nI x then (mSet M 0 0).2 24 g else 0) = M.2 24 g := by
              rcases h25 with z | z
              · have z' : (mSet M 0 0).2 24 g = 0 := z
                rw [z', z]
                split <;> rfl
              · exact if_pos z
            rw [w1, w2] at hb
            have hb : mInB M2 (nI x) (nBg M) = mInB (mSet M 0 0) (nI x) (nBg M) + u := by
              rw [al2 _ _ _ _ hb, Int32.add_comm (M.2 24 g) u, ← Int32.add_assoc, Int32.add_sub_cancel]
            rw [n22b, hb, ← hS2, ← hM2]
            simp only [cFi_setI, cFr_setI, cFi_setR, cFr_setR, cFi_ast, cFr_ast, cRi_ast, cRi_setI, cRi_setR, mAst_2, mSet_1, eq_self, Nat.reduceEqDiff, and_false, false_and, and_true, true_and, and_self, if_true, if_false, not_true_eq_false, not_false_eq_true, false_implies, true_implies, implies_true, ed, n32]
            refine ⟨h300, h301, h302, h303, ?_, h305, h306, ?_, h308, h309, h310⟩
            · rw [h304]; exact (al5 _ _ _ _).symm
            · rw [h307]; rfl
          · have w1 : (if M2.2 25 g = nI x then M2.2 24 g else 0) = 0 := if_neg (by rw [e25, eq_nI (by omega) (by omega)]; exact fun w => q2 w.symm)
            have w2 : (if (mSet M 0 0).2 25 g = nI x then (mSet M 0 0).2 24 g else 0) = 0 := by
              rcases h25 with z | z
              · have z' : (mSet M 0 0).2 24 g = 0 := z
                rw [z']
                split <;> rfl
              · exact if_neg (by rw [show (mSet M 0 0).2 25 g = nI s from z, eq_nI (by omega) (by omega)]; exact fun w => q2 w.symm)
            rw [w1, w2, Int32.add_zero, Int32.add_zero] at hb
            rw [n22b, hb, ← hS2, ← hM2]
            simp only [cFi_setI, cFr_setI, cFi_setR, cFr_setR, cFi_ast, cFr_ast, cRi_ast, cRi_setI, cRi_setR, mAst_2, mSet_1, eq_self, Nat.reduceEqDiff, and_false, false_and, and_true, true_and, and_self, if_true, if_false, not_true_eq_false, not_false_eq_true, false_implies, true_implies, implies_true, ed, n32, q2]
            exact ⟨h300, h301, h302, h303, h304, h305, h306, h307, h308, h309, h310⟩
        · refine ⟨(hch.2.2.1 _).trans r0, (hch.2.2.2 _).trans r1, fun p hp => ?_⟩
          have c1 : M2.1 1 = M.1 1 := c 1
          unfold mInH
          rw [c1, ix_nI (show p < 1000 by omega), ← hS2, ← hM2, mAst_ne (by omega), mAst_ne (by omega), mAst_ne (by omega), mAst_eq, mAst_ne (k := 26) (j := 21) (by omega), mAst_ne (k := 25) (j := 21) (by omega), mAst_ne (k := 24) (j := 21) (by omega), mAst_ne (k := 20) (j := 21) (by omega), mAst_eq]
          rw [cRi_setI, cRi_setR, cRi_setI, cRi_setI, cRi_setI, cRi_ast]
          by_cases w : p = j
          · rw [if_pos ⟨rfl, w⟩, if_pos w, if_pos rfl, if_pos w, erow]
          · rw [if_neg (fun z => w z.2), if_neg w, if_neg w, mAst_ne (by omega), r2 p hp]
            unfold mInH
            rw [ix_nI (show p < 1000 by omega)]
            rfl
      have hi2 : iAll M2 := by
        refine ⟨hi.1.mono  (c 29) (c 22) (c 46), hi.2.1.mono (m 9 (by omega) (by omega) (by omega) (by omega) (by omega)) (m 7 (by omega) (by omega) (by omega) (by omega) (by omega)) (m 5 (by omega) (by omega) (by omega) (by omega) (by omega)) (m 15 (by omega) (by omega) (by omega) (by omega) (by omega)) , hi.2.2.1.mono (m 18 (by omega) (by omega) (by omega) (by omega) (by omega)) (m 17 (by omega) (by omega) (by omega) (by omega) (by omega)) (m 19 (by omega) (by omega) (by omega) (by omega) (by omega)) (m 28 (by omega) (by omega) (by omega) (by omega) (by omega)) (m 27 (by omega) (by omega) (by omega) (by omega) (by omega)) (c 22), hi.2.2.2.1.mono (m 42 (by omega) (by omega) (by omega) (by omega) (by omega)) (m 40 (by omega) (by omega) (by omega) (by omega) (by omega)) (m 41 (by omega) (by omega) (by omega) (by omega) (by omega)) (m 28 (by omega) (by omega) (by omega) (by omega) (by omega)) (c 29) (c 22), ?_, hi.2.2.2.2.2.1.mono (m 47 (by omega) (by omega) (by omega) (by omega) (by omega)) (m 48 (by omega) (by omega) (by omega) (by omega) (by omega)) (m 49 (by omega) (by omega) (by omega) (by omega) (by omega)) (m 51 (by omega) (by omega) (by omega) (by omega) (by omega)) (c 46), hi.2.2.2.2.2.2.1.mono (m 37 (by omega) (by omega) (by omega) (by omega) (by omega)) (m 35 (by omega) (by omega) (by omega) (by omega) (by omega)) (m 34 (by omega) (by omega) (by omega) (by omega) (by omega)) (m 33 (by omega) (by omega) (by omega) (by omega) (by omega)) (m 36 (by omega) (by omega) (by omega) (by omega) (by omega)) (c 29), hi.2.2.2.2.2.2.2.1.mono (m 45 (by omega) (by omega) (by omega) (by omega) (by omega)) (c 29), hi.2.2.2.2.2.2.2.2.1.mono (m 32 (by omega) (by omega) (by omega) (by omega) (by omega)) (m 39 (by omega) (by omega) (by omega) (by omega) (by omega)) (m 42 (by omega) (by omega) (by omega) (by omega) (by omega)) (m 43 (by omega) (by omega) (by omega) (by omega) (by omega)) (m 44 (by omega) (by omega) (by omega) (by omega) (by omega)) (m 53 (by omega) (by omega) (by omega) (by omega) (by omega)) (m 54 (by omega) (by omega) (by omega) (by omega) (by omega)) (m 55 (by omega) (by omega) (by omega) (by omega) (by omega)) (m 35 (by omega) (by omega) (by omega) (by omega) (by omega)) (c 29) (c 46), ?_⟩
        · intro x hx
          rw [show nBg M2 = nBg (mSet M 0 0) by unfold nBg; rw [c 22]] at hx
          obtain ⟨i1, i2, i3⟩ := hi.2.2.2.2.1 x hx
          have eT : ∀ t, nT M2 t = nT (mSet M 0 0) t := fun t => by unfold nT; rw [m 18 (by omega) (by omega) (by omega) (by omega) (by omega)]
          have eW : ∀ t, nW M2 t = nW (mSet M 0 0) t := fun t => by unfold nW; rw [m 42 (by omega) (by omega) (by omega) (by omega) (by omega)]
          have nC : nCo M2 = nCo M := by unfold nCo; rw [c 46]; rfl
          simp only [m 28 (by omega) (by omega) (by omega) (by omega) (by omega), m 27 (by omega) (by omega) (by omega) (by omega) (by omega), m 19 (by omega) (by omega) (by omega) (by omega) (by omega), m 41 (by omega) (by omega) (by omega) (by omega) (by omega), m 23 (by omega) (by omega) (by omega) (by omega) (by omega), eT, eW, show nBt M2 = nBt (mSet M 0 0) by unfold nBt; rw [c 29], nC]
          refine ⟨i1, ?_, i3⟩
          by_cases w : x = g
          · exact Or.inr ⟨by rw [← hM2, mAst_ne (by omega), mAst_ne (by omega), mAst_eq, if_pos w]; exact hsum, s, hs, by rw [← hM2, mAst_ne (by omega), mAst_eq, if_pos w]⟩
          · rw [← hM2, mAst_ne (by omega), mAst_ne (by omega), mAst_eq, if_neg w, mAst_ne (k := 26) (j := 25) (by omega), mAst_eq, if_neg w]
            exact i2
        · obtain ⟨t1, t2, t3⟩ := hi.2.2.2.2.2.2.2.2.2
          refine ⟨by rw [c 1]; exact t1, by rw [c 4]; exact t2, fun p hp => ?_⟩
          rw [c 1, ← hM2, mAst_ne (by omega), mAst_ne (by omega), mAst_ne (by omega), mAst_eq]
          by_cases w : p = j
          · rw [if_pos w]
            exact Int32.le_refl _
          · rw [if_neg w]
            exact t3 p hp
      have hE : RR W9 B (d 9 0) S2 M2 := by
        have hw : ways M2 (nBt (mSet M 0 0)) = ways (mSet M 0 0) (nBt (mSet M 0 0)) := ways_same _ (fun v _ => way_of (by rw [m 34 (by omega) (by omega) (by omega) (by omega) (by omega)]) (by rw [m 37 (by omega) (by omega) (by omega) (by omega) (by omega)]) (by rw [m 33 (by omega) (by omega) (by omega) (by omega) (by omega)]) (by rw [m 35 (by omega) (by omega) (by omega) (by omega) (by omega)]))
        exact ⟨d, np, N, (RRd_step h0d hR2 hi2 hw hch (hX 9 2 (by omega)) (fun i => hX 11 i (by omega)) (fun i => hX 12 i (by omega)) (c 22 ) (c 29 ) (m 27 (by omega) (by omega) (by omega) (by omega) (by omega)) (m 28 (by omega) (by omega) (by omega) (by omega) (by omega)) (m 33 (by omega) (by omega) (by omega) (by omega) (by omega)) (m 34 (by omega) (by omega) (by omega) (by omega) (by omega))).1⟩
      have hE0 : M2.1 0 = 0 := by rw [← hM2]; first | rfl | simp [mAst_1, mSet_1]
      exact hk _ _ (ans_1 hE (by rw [ho', hM2]) hE0 rfl)

