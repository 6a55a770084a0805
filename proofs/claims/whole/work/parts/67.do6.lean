/-! The class's answers are the reference's: to load, to unload. -/
theorem al1 (a i p u : Int32) : a - i + u - (p + u) = a - i - p := by grind
theorem al2 (x y z w : Int32) (h : x + y = z + w) : x = z + w - y := by rw [← h, Int32.add_sub_cancel]
theorem al3 (a b c u : Int32) (h : a + b = c + u) : a + c + b = c + u + c := by grind
theorem al4 (a i p u : Int32) : a - (i - u) - (p + u) = a - i - p := by grind
theorem al5 (a i p u : Int32) : a - (i + u) - p = a - i - p - u := by grind
theorem mInB_at {M M2 : mS} {c : Int32} {g : Nat} : ∀ n, g < n → (∀ k, k < n → k ≠ g → M2.2 24 k = M.2 24 k ∧ M2.2 25 k = M.2 25 k) → mInB M2 c n + (if M.2 25 g = c then M.2 24 g else 0) = mInB M c n + (if M2.2 25 g = c then M2.2 24 g else 0)
  | 0, h, _ => by omega
  | n + 1, h, hs => by
    show mInB M2 c n + (if M2.2 25 n = c then M2.2 24 n else 0) + (if M.2 25 g = c then M.2 24 g else 0) = mInB M c n + (if M.2 25 n = c then M.2 24 n else 0) + (if M2.2 25 g = c then M2.2 24 g else 0)
    by_cases q : g = n
    · subst q
      have e : mInB M2 c g = mInB M c g := by
        have : ∀ j, j ≤ g → mInB M2 c j = mInB M c j := by
          intro j
          induction j with
          | zero => intro _; rfl
          | succ j ih =>
            intro hj
            show mInB M2 c j + (if M2.2 25 j = c then M2.2 24 j else 0) = mInB M c j + (if M.2 25 j = c then M.2 24 j else 0)
            rw [ih (by omega), (hs j (by omega) (by omega)).1, (hs j (by omega) (by omega)).2]
        exact this g (Nat.le_refl _)
      rw [e, Int32.add_assoc, Int32.add_assoc, Int32.add_comm (if M2.2 25 g = c then M2.2 24 g else 0)]
    · have ih := mInB_at n (by omega) (fun k a b => hs k (by omega) b) (M := M) (M2 := M2) (c := c)
      rw [(hs n (by omega) (fun z => q z.symm)).1, (hs n (by omega) (fun z => q z.symm)).2]
      generalize (if M.2 25 n = c then M.2 24 n else 0) = t at *
      rw [Int32.add_assoc, Int32.add_comm t, ← Int32.add_assoc, ih, Int32.add_assoc, Int32.add_comm _ t, ← Int32.add_assoc]
theorem R0_gOut {W9 : xWd} {d : Nat → Nat → Nat} {S : cS} {M : mS} (hd : dInj d) (hR : R0 W9 d S M) (hi : iAll M) {g : Nat} (hg : g < nBg M) (p : Int32) : gOut S (d 2 g) p ↔ (M.2 28 g = -1 ∧ M.2 27 g / 2 = p ∧ mOut M (nI g) (mPlc M (nI g)) = 0) := by
  obtain ⟨x1, x2⟩ := R0_bh hd hR hi hg
  unfold gOut
  by_cases z : M.2 28 g = -1
  · obtain ⟨a1, a2, a3⟩ := x1 z
    rw [a1, a2, a3]
    exact ⟨fun w => ⟨z, w.1.2, w.2⟩, fun w => ⟨⟨rfl, w.2.1⟩, w.2.2⟩⟩
  · obtain ⟨a1, a2, a3⟩ := x2 z
    exact ⟨fun w => absurd w.1.1 a3, fun w => absurd w.1 z⟩
theorem R0_104 {W9 : xWd} {d : Nat → Nat → Nat} {S : cS} {M : mS} (hR : R0 W9 d S M) (hi : iAll M) {g : Nat} (hg : g < nBg M) : (M.2 24 g = 0 ∧ M.2 25 g = -1 ∧ cFr S (d 2 g) 104 = none) ∨ (¬ M.2 24 g = 0 ∧ (1 ≤ M.2 24 g ∧ M.2 24 g ≤ 12) ∧ ∃ c, c < nCo M ∧ M.2 25 g = nI c ∧ cFr S (d 2 g) 104 = some (d 3 c)) := by
  have b104 := (hR.2.2.2.1 g hg).2.2.2.2.2.1
  have hb := hi.1.2.2.2
  rcases (hi.2.2.2.2.1 g hg).2.1 with ⟨z1, z2⟩ | ⟨z1, c, hc, ec⟩
  · rw [if_pos z2] at b104
    exact Or.inl ⟨z1, z2, b104⟩
  · rw [if_neg (by rw [ec]; exact nI_m1 (by omega)), ec, ix_nI (by omega)] at b104
    refine Or.inr ⟨fun w => ?_, z1, c, hc, ec, b104⟩
    rw [w] at z1
    exact absurd z1.1 (by decide)
theorem btw_dec : ∀ i, i < 8 → ∀ j, j < 8 → (if 0 ≤ nI j - nI i then nI j - nI i else 0 - (nI j - nI i)) = mBtw (nI i) (nI j) := by decide +kernel
theorem sub_pos {a b : Nat} (ha : a ≤ 5000) (hb : b ≤ 5000) : (0 < nI a - nI b) = (nI b < nI a) := by
  rw [Int32.lt_iff_toInt_lt, Int32.lt_iff_toInt_lt, Int32.toInt_sub, nI_toInt (by omega), nI_toInt (by omega), Int.bmod_eq_of_le (by omega) (by omega)]
  have : (0 : Int32).toInt = 0 := by decide
  rw [this]
  exact propext ⟨fun z => by omega, fun z => by omega⟩
theorem in_5k {x : Int32} (h1 : 0 ≤ x) (h2 : x ≤ 5000) : ∃ j, j ≤ 5000 ∧ x = nI j := by
  have z1 := Int32.le_iff_toInt_le.mp h1
  have z2 := Int32.le_iff_toInt_le.mp h2
  have e1 : (0 : Int32).toInt = 0 := by decide
  have e2 : (5000 : Int32).toInt = 5000 := by decide
  rw [e1] at z1
  rw [e2] at z2
  refine ⟨x.toInt.toNat, by omega, Int32.toInt_inj.mp ?_⟩
  rw [nI_toInt (by omega)]
  omega
theorem R0_pay {W9 : xWd} {d : Nat → Nat → Nat} {S : cS} {M : mS} (hR : R0 W9 d S M) (hi : iAll M) {g c : Nat} (hc : c < nCo M) (hg : g < nBg M) : cPay S (d 3 c) (M.2 24 g) (M.1 1) = mPay M (nI g) (nI c) := by
  obtain ⟨-, -, -, c302, c303, -, c305, c306, -, -, -, c310⟩ := hR.2.2.2.2.1 c hc
  obtain ⟨-, v1, v2, v3, v4⟩ := hi.2.2.2.2.2.1 c hc
  obtain ⟨⟨h, eh, hh⟩, -⟩ := hi.2.2.2.2.2.2.2.2.2
  obtain ⟨i, hi8, ei, -⟩ := nx_nat v1 (by omega)
  obtain ⟨j, hj8, ej, -⟩ := nx_nat v2 (by omega)
  obtain ⟨x, hx, ex⟩ := in_5k v3 v4
  have hb := hi.1.2.2.2
  have hb2 := hi.1.2.1.2
  unfold cPay mPay
  rw [c302, c303, c305, c306, c310, ix_nI (show g < 1000 by omega), ix_nI (show c < 1000 by omega), ei, ej, ex, eh, btw_dec i hi8 j hj8]
  by_cases q : nI x < nI h
  · rw [if_pos q, if_pos (by rw [sub_pos hh hx]; exact q)]
  · rw [if_neg q, if_neg (by rw [sub_pos hh hx]; exact q)]

theorem Q_unload {W9 : xWd} {B a : Nat} {S : cS} {M : mS} {k : Int32} {K : xRes → cS → Prop} (h : RR W9 B a S M) (hk : ∀ r S2, ans [eB, eS] W9 B a (oUnload M k) r S2 → K r S2) : (spX7_unload W9).2 [.ref a, .int k] S K := by
  have h0 := RR_set0 (z := 0) h
  have h00 := h0
  obtain ⟨d, np, N, h0d⟩ := h00
  have h0e := h0d
  obtain ⟨hd, rfl, hi, hR, hp, hl, hN, hB⟩ := h0e
  have g0 := hR.2.2.2.2.2.2.2.2.1.1
  obtain ⟨g7, g8, g9, g10, g11, g12, g13⟩ := hR.2.2.2.2.2.2.2.2.1.2.2
  have e29 : M.1 29 = nI (nBt M) := hi.1.1.1
  have e22 : M.1 22 = nI (nBg M) := hi.1.2.1.1
  have e46 : M.1 46 = nI (nCo M) := hi.1.2.2.1
  have b29 : nBt M ≤ 6 := hi.1.1.2
  have b22 : nBg M ≤ 24 := hi.1.2.1.2
  have b46 : nCo M ≤ 12 := hi.1.2.2.2
  have n29 : nBt (mSet M 0 0) = nBt M := rfl
  have n22 : nBg (mSet M 0 0) = nBg M := rfl
  have n46 : nCo (mSet M 0 0) = nCo M := rfl
  obtain ⟨f1, f2, f3, f4, f5, f6⟩ := R0_barges hR
  rw [n22] at f4 f5 f6
  rw [spwX7_unload, f2, f5]
  have hgk : ∀ j, j < lCn S (d 6 2) → gOk S (lG S (d 6 2) j) := fun j hj => by
    rw [f4] at hj
    rw [f6 j hj]
    exact R0_gOk hd hR hi hj
  refine ⟨g0, ⟨f1, f3⟩, hgk, fun q => hk _ _ (ans_e h (z := 1) ?_ (by decide) rfl), fun v => ?_⟩
  · unfold oUnload
    rw [if_pos (fun z => q (by rw [← le_m1 (by omega), ← e22]; exact z))]
  · have y0 : (0 ≤ k ∧ k ≤ M.1 22 - 1) := by rw [e22, le_m1 (by omega)]; exact v
    rw [idx (by omega)] at v
    obtain ⟨g, hg, rfl⟩ := v
    have e103 : cFi S (d 2 g) 103 = M.2 24 g := (hR.2.2.2.1 g hg).2.2.2.2.1
    have e807 : cFi S (d 9 0) 807 = M.1 1 := g7
    have ho' : oUnload M (nI g) = if M.2 24 g = 0 ∨ ¬ (M.2 28 g = -1 ∧ M.2 27 g / 2 = M.2 49 (M.2 25 g).toNatClampNeg ∧ mOut M (nI g) (mPlc M (nI g)) = 0) then (0, mSet M 0 2) else (mPay M (nI g) (M.2 25 g), mAst (mAst (mAst (mAst (mSet M 0 0) 53 (M.2 25 g).toNatClampNeg (M.2 53 (M.2 25 g).toNatClampNeg + M.2 24 g)) 54 (M.2 25 g).toNatClampNeg (M.2 54 (M.2 25 g).toNatClampNeg + mPay M (nI g) (M.2 25 g))) 24 g 0) 25 g (-1)) := by
      unfold oUnload
      rw [if_neg (not_not_intro y0), ix_nI (show g < 1000 by omega)]
    rw [ix_nI (show g < 1000 by omega), f6 g hg, e103, e807]
    rcases R0_104 hR hi hg with ⟨z1, z2, z3⟩ | ⟨z0, z1, s, hs, es, z3⟩
    · have z1 : M.2 24 g = 0 := z1
      refine ⟨fun _ => hk _ _ (ans_e h (z := 2) ?_ (by decide) rfl), fun c hc => (by rw [z3] at hc; cases hc)⟩
      rw [ho', if_pos (Or.inl z1)]
    · have z0 : ¬ M.2 24 g = 0 := z0
      have es : M.2 25 g = nI s := es
      refine ⟨fun w => (by rw [z3] at w; cases w), fun c hc => ?_⟩
      rw [z3] at hc
      obtain rfl := Option.some.inj hc
      have hC := hR.2.2.2.2.1 s hs
      have e303 : cFi S (d 3 s) 303 = M.2 49 s := hC.2.2.2.2.1
      rw [es, ix_nI (show s < 1000 by omega)] at ho'
      have hgo : gOut S (d 2 g) (M.2 49 s) ↔ (M.2 28 g = -1 ∧ M.2 27 g / 2 = M.2 49 s ∧ mOut M (nI g) (mPlc M (nI g)) = 0) := R0_gOut hd hR hi hg (M.2 49 s)
      have hpay : cPay S (d 3 s) (M.2 24 g) (M.1 1) = mPay M (nI g) (nI s) := R0_pay hR hi hs hg
      rw [e303, hpay]
      refine ⟨fun q => hk _ _ (ans_e h (z := 2) ?_ (by decide) rfl), fun q => ?_⟩
      · rw [ho', if_pos (Or.inr (fun w => q (hgo.mpr w)))]
      · have hcu : cUnl S (d 2 g) (d 3 s) (M.1 1) = cSetR (cSetI (cSetI (cSetI (cSetI S (d 3 s) 307 (cFi S (d 3 s) 307 - M.2 24 g)) (d 3 s) 308 (cFi S (d 3 s) 308 + M.2 24 g)) (d 3 s) 309 (cFi S (d 3 s) 309 + mPay M (nI g) (nI s))) (d 2 g) 103 0) (d 2 g) 104 none := by
          unfold cUnl
          rw [e103, hpay]
        rw [if_neg (fun w => w.elim z0 (fun w => w (hgo.mp q)))] at ho'
        rw [hcu]
        have n32 : ∀ x y, (d 3 x = d 2 y) = False := fun x y => eq_false (hd.ne (by omega))
        have n23 : ∀ x y, (d 2 x = d 3 y) = False := fun x y => eq_false (hd.ne (by omega))
        generalize hpv : mPay M (nI g) (nI s) = pv at *
        generalize hM2 : mAst (mAst (mAst (mAst (mSet M 0 0) 53 s (M.2 53 s + M.2 24 g)) 54 s (M.2 54 s + pv)) 24 g 0) 25 g (-1) = M2
        have m : ∀ k, k ≠ 53 → k ≠ 54 → k ≠ 24 → k ≠ 25 → M2.2 k = (mSet M 0 0).2 k := by
          intro k a0 a1 a2 a3
          rw [← hM2]
          first | rfl | (simp only [mAst_2]; funext n; repeat rw [if_neg (fun z => by omega)]) | (funext n; simp only [mAst_2, mSet_2]; repeat rw [if_neg (fun z => by omega)])
        have c : ∀ k, M2.1 k = (mSet M 0 0).1 k := by
          intro k 
          rw [← hM2]
          first | rfl | (simp only [mAst_1, mSet_1]; repeat rw [if_neg (by omega)]) | (repeat rw [mSet_ne (by omega)]; rfl) | (repeat rw [mSet_ne (by omega)])
        generalize hS2 : cSetR (cSetI (cSetI (cSetI (cSetI S (d 3 s) 307 (cFi S (d 3 s) 307 - M.2 24 g)) (d 3 s) 308 (cFi S (d 3 s) 308 + M.2 24 g)) (d 3 s) 309 (cFi S (d 3 s) 309 + pv)) (d 2 g) 103 0) (d 2 g) 104 none = S2
        have hch : chg S S2 (fun b => b = d 3 s ∨ b = d 2 g) := by
          rw [← hS2]
          exact (chg.sR (X := (fun b => b = d 3 s ∨ b = d 2 g)) (chg.sI (X := (fun b => b = d 3 s ∨ b = d 2 g)) (chg.sI (X := (fun b => b = d 3 s ∨ b = d 2 g)) (chg.sI (X := (fun b => b = d 3 s ∨ b = d 2 g)) (chg.sI (X := (fun b => b = d 3 s ∨ b = d 2 g)) (chg.rf (X := (fun b => b = d 3 s ∨ b = d 2 g))) (Or.inl rfl)) (Or.inl rfl)) (Or.inl rfl)) (Or.inr rfl)) (Or.inr rfl))
        have hX : ∀ (k i : Nat), ¬ (k = 3 ∧ i = s) ∧ ¬ (k = 2 ∧ i = g) → ¬ (fun b => b = d 3 s ∨ b = d 2 g) (d k i) := fun k i z y => y.elim (fun y => z.1 (hd _ _ _ _ y)) (fun y => z.2 (hd _ _ _ _ y))
        have hL : ∀ k i, isL (mSet M 0 0) k i → ¬ (fun b => b = d 3 s ∨ b = d 2 g) (d k i) := fun k i z => hX k i (by rcases z with ⟨rfl, _⟩ | ⟨rfl, _⟩ | ⟨rfl, _⟩ <;> omega)
        have hR2 : R0 W9 d S2 M2 := by
          refine ⟨hR.1.mono (fun z _ => hch.sm (hX 0 z (by omega))) (m 5 (by omega) (by omega) (by omega) (by omega)) (m 6 (by omega) (by omega) (by omega) (by omega)) (m 7 (by omega) (by omega) (by omega) (by omega)) (m 8 (by omega) (by omega) (by omega) (by omega)) (m 9 (by omega) (by omega) (by omega) (by omega)) (m 10 (by omega) (by omega) (by omega) (by omega)) (m 11 (by omega) (by omega) (by omega) (by omega)) (m 12 (by omega) (by omega) (by omega) (by omega)) (m 13 (by omega) (by omega) (by omega) (by omega)) (m 14 (by omega) (by omega) (by omega) (by omega)) (m 15 (by omega) (by omega) (by omega) (by omega)) (m 16 (by omega) (by omega) (by omega) (by omega)) , hR.2.1.mono (fun z _ => hch.sm (hX 1 z (by omega))) (m 17 (by omega) (by omega) (by omega) (by omega)) , hR.2.2.1.mono (fun z _ => hch.sm (hX 5 z (by omega))) (m 40 (by omega) (by omega) (by omega) (by omega)) (c 29), ?_, ?_, hR.2.2.2.2.2.1.mono (fun z _ => hch.sm (hX 4 z (by omega))) (m 30 (by omega) (by omega) (by omega) (by omega)) (m 31 (by omega) (by omega) (by omega) (by omega)) (m 32 (by omega) (by omega) (by omega) (by omega)) (m 33 (by omega) (by omega) (by omega) (by omega)) (m 34 (by omega) (by omega) (by omega) (by omega)) (m 35 (by omega) (by omega) (by omega) (by omega)) (m 36 (by omega) (by omega) (by omega) (by omega)) (m 37 (by omega) (by omega) (by omega) (by omega)) (m 38 (by omega) (by omega) (by omega) (by omega)) (m 39 (by omega) (by omega) (by omega) (by omega)) (m 43 (by omega) (by omega) (by omega) (by omega)) (c 29), hR.2.2.2.2.2.2.1.mono (fun z _ => hch.sm (hX 4 z (by omega))) (m 45 (by omega) (by omega) (by omega) (by omega)) (c 29), hR.2.2.2.2.2.2.2.1.mono (fun z _ => hch.sm (hX 10 z (by omega))) (m 44 (by omega) (by omega) (by omega) (by omega)) (c 29), hR.2.2.2.2.2.2.2.2.1.mono (hch.sm (hX 9 0 (by omega)))  (c 1) (c 2) (c 3) (c 4) (c 56) (c 57) (c 58), hR.2.2.2.2.2.2.2.2.2.1.mono (hch.sm (hX 9 1 (by omega))) (m 20 (by omega) (by omega) (by omega) (by omega)) (m 21 (by omega) (by omega) (by omega) (by omega)) (c 1), hR.2.2.2.2.2.2.2.2.2.2.mono (fun k i z hc => hch.lst (hL k i z) hc) (m 18 (by omega) (by omega) (by omega) (by omega)) (m 19 (by omega) (by omega) (by omega) (by omega)) (m 41 (by omega) (by omega) (by omega) (by omega)) (m 42 (by omega) (by omega) (by omega) (by omega)) (c 22) (c 29) (c 46)⟩
          · intro x hx
            rw [show nBg M2 = nBg (mSet M 0 0) by unfold nBg; rw [c 22]] at hx
            obtain ⟨h0, h100, h101, h102, h103, h104, h105⟩ := hR.2.2.2.1 x hx
            have ed : (d 2 x = d 2 g) = (x = g) := propext ⟨fun y => (hd _ _ _ _ y).2, fun y => by rw [y]⟩
            refine ⟨(hch.2.2.1 _).trans h0, ?_⟩
            rw [← hS2, ← hM2]
            by_cases q : x = g
            · subst q
              simp only [cFi_setI, cFr_setI, cFi_setR, cFr_setR, cFi_ast, cFr_ast, cRi_ast, cRi_setI, cRi_setR, mAst_2, mSet_1, eq_self, Nat.reduceEqDiff, and_false, false_and, and_true, true_and, and_self, if_true, if_false, not_true_eq_false, not_false_eq_true, false_implies, true_implies, implies_true, ed, n23]
              exact ⟨h100, h101, h102, h105⟩
            · simp only [cFi_setI, cFr_setI, cFi_setR, cFr_setR, cFi_ast, cFr_ast, cRi_ast, cRi_setI, cRi_setR, mAst_2, mSet_1, eq_self, Nat.reduceEqDiff, and_false, false_and, and_true, true_and, and_self, if_true, if_false, not_true_eq_false, not_false_eq_true, false_implies, true_implies, implies_true, ed, q, n23]
              exact ⟨h100, h101, h102, h103, h104, h105⟩
          · intro x hx
            rw [show nCo M2 = nCo (mSet M 0 0) by unfold nCo; rw [c 46]] at hx
            rw [n46] at hx
            obtain ⟨h0, h300, h301, h302, h303, h304, h305, h306, h307, h308, h309, h310⟩ := hR.2.2.2.2.1 x hx
            have ed : (d 3 x = d 3 s) = (x = s) := propext ⟨fun y => (hd _ _ _ _ y).2, fun y => by rw [y]⟩
            have hb := mInB_at (M := mSet M 0 0) (M2 := M2) (c := nI x) (g := g) (nBg M) hg (fun k hk hne => ⟨by rw [← hM2, mAst_ne (by omega), mAst_eq, if_neg hne, mAst_ne (by omega), mAst_ne (by omega)], by rw [← hM2, mAst_eq, if_neg hne, mAst_ne (by omega), mAst_ne (by omega), mAst_ne (by omega)]⟩)
            have e25 : M2.2 25 g = -1 := by rw [← hM2, mAst_eq, if_pos rfl]
            have e1 : (if M2.2 25 g = nI x then M2.2 24 g else 0) = 0 := if_neg (by rw [e25]; exact fun w => nI_m1 (show x < 1000 by omega) w.symm)
            rw [e1, Int32.add_zero] at hb
            have n22b : nBg M2 = nBg M := by unfold nBg; rw [c 22]; rfl
            refine ⟨(hch.2.2.1 _).trans h0, ?_⟩
            by_cases q : x = s
            · subst q
              have e2 : (if (mSet M 0 0).2 25 g = nI x then (mSet M 0 0).2 24 g else 0) = M.2 24 g := if_pos es
              rw [e2] at hb
              have hb : mInB M2 (nI x) (nBg M) = mInB (mSet M 0 0) (nI x) (nBg M) - M.2 24 g := by
                rw [← hb]
                exact (Int32.add_sub_cancel _ _).symm
              rw [n22b, hb, ← hS2, ← hM2]
              simp only [cFi_setI, cFr_setI, cFi_setR, cFr_setR, cFi_ast, cFr_ast, cRi_ast, cRi_setI, cRi_setR, mAst_2, mSet_1, eq_self, Nat.reduceEqDiff, and_false, false_and, and_true, true_and, and_self, if_true, if_false, not_true_eq_false, not_false_eq_true, false_implies, true_implies, implies_true, ed, n32]
              refine ⟨h300, h301, h302, h303, ?_, h305, h306, ?_, ?_, ?_, h310⟩
              · rw [h304]; exact (al4 _ _ _ _).symm
              · rw [h307]; rfl
              · rw [h308]; rfl
              · rw [h309]; rfl
            · have e2 : (if (mSet M 0 0).2 25 g = nI x then (mSet M 0 0).2 24 g else 0) = 0 := if_neg (fun w => q (by rw [show (mSet M 0 0).2 25 g = nI s from es, eq_nI (by omega) (by omega)] at w; exact w.symm))
              rw [e2, Int32.add_zero] at hb
              rw [n22b, hb, ← hS2, ← hM2]
              simp only [cFi_setI, cFr_setI, cFi_setR, cFr_setR, cFi_ast, cFr_ast, cRi_ast, cRi_setI, cRi_setR, mAst_2, mSet_1, eq_self, Nat.reduceEqDiff, and_false, false_and, and_true, true_and, and_self, if_true, if_false, not_true_eq_false, not_false_eq_true, false_implies, true_implies, implies_true, ed, n32, q]
              exact ⟨h300, h301, h302, h303, h304, h305, h306, h307, h308, h309, h310⟩
        have hi2 : iAll M2 := by
          refine ⟨hi.1.mono  (c 29) (c 22) (c 46), hi.2.1.mono (m 9 (by omega) (by omega) (by omega) (by omega)) (m 7 (by omega) (by omega) (by omega) (by omega)) (m 5 (by omega) (by omega) (by omega) (by omega)) (m 15 (by omega) (by omega) (by omega) (by omega)) , hi.2.2.1.mono (m 18 (by omega) (by omega) (by omega) (by omega)) (m 17 (by omega) (by omega) (by omega) (by omega)) (m 19 (by omega) (by omega) (by omega) (by omega)) (m 28 (by omega) (by omega) (by omega) (by omega)) (m 27 (by omega) (by omega) (by omega) (by omega)) (c 22), hi.2.2.2.1.mono (m 42 (by omega) (by omega) (by omega) (by omega)) (m 40 (by omega) (by omega) (by omega) (by omega)) (m 41 (by omega) (by omega) (by omega) (by omega)) (m 28 (by omega) (by omega) (by omega) (by omega)) (c 29) (c 22), ?_, hi.2.2.2.2.2.1.mono (m 47 (by omega) (by omega) (by omega) (by omega)) (m 48 (by omega) (by omega) (by omega) (by omega)) (m 49 (by omega) (by omega) (by omega) (by omega)) (m 51 (by omega) (by omega) (by omega) (by omega)) (c 46), hi.2.2.2.2.2.2.1.mono (m 37 (by omega) (by omega) (by omega) (by omega)) (m 35 (by omega) (by omega) (by omega) (by omega)) (m 34 (by omega) (by omega) (by omega) (by omega)) (m 33 (by omega) (by omega) (by omega) (by omega)) (m 36 (by omega) (by omega) (by omega) (by omega)) (c 29), hi.2.2.2.2.2.2.2.1.mono (m 45 (by omega) (by omega) (by omega) (by omega)) (c 29), ?_, hi.2.2.2.2.2.2.2.2.2.mono (m 20 (by omega) (by omega) (by omega) (by omega)) (c 1) (c 4)⟩
          · intro x hx
            rw [show nBg M2 = nBg (mSet M 0 0) by unfold nBg; rw [c 22]] at hx
            obtain ⟨i1, i2, i3⟩ := hi.2.2.2.2.1 x hx
            have eT : ∀ t, nT M2 t = nT (mSet M 0 0) t := fun t => by unfold nT; rw [m 18 (by omega) (by omega) (by omega) (by omega)]
            have eW : ∀ t, nW M2 t = nW (mSet M 0 0) t := fun t => by unfold nW; rw [m 42 (by omega) (by omega) (by omega) (by omega)]
            simp only [m 28 (by omega) (by omega) (by omega) (by omega), m 27 (by omega) (by omega) (by omega) (by omega), m 19 (by omega) (by omega) (by omega) (by omega), m 41 (by omega) (by omega) (by omega) (by omega), m 23 (by omega) (by omega) (by omega) (by omega), eT, eW, show nBt M2 = nBt (mSet M 0 0) by unfold nBt; rw [c 29], show nCo M2 = nCo (mSet M 0 0) by unfold nCo; rw [c 46]]
            refine ⟨i1, ?_, i3⟩
            by_cases w : x = g
            · exact Or.inl ⟨by rw [← hM2, mAst_ne (by omega), mAst_eq, if_pos w], by rw [← hM2, mAst_eq, if_pos w]⟩
            · rw [← hM2, mAst_ne (by omega), mAst_eq, if_neg w, mAst_eq, if_neg w]
              exact i2
          · obtain ⟨z1, z2⟩ := hi.2.2.2.2.2.2.2.2.1
            refine ⟨fun w hw hn => ?_, fun x2 hx2 hn => ?_⟩
            · rw [show nBt M2 = nBt (mSet M 0 0) by unfold nBt; rw [c 29]] at hn
              rw [m 32 (by omega) (by omega) (by omega) (by omega), m 39 (by omega) (by omega) (by omega) (by omega), m 42 (by omega) (by omega) (by omega) (by omega), m 43 (by omega) (by omega) (by omega) (by omega), m 44 (by omega) (by omega) (by omega) (by omega), m 35 (by omega) (by omega) (by omega) (by omega)]
              exact z1 w hw hn
            · rw [show nCo M2 = nCo (mSet M 0 0) by unfold nCo; rw [c 46]] at hn
              have hs2 : s < nCo (mSet M 0 0) := hs
              obtain ⟨y1, y2, y3⟩ := z2 x2 hx2 hn
              rw [m 55 (by omega) (by omega) (by omega) (by omega), ← hM2, mAst_ne (by omega), mAst_ne (by omega), mAst_ne (by omega), mAst_eq, if_neg (by omega), mAst_ne (by omega), mAst_ne (by omega), mAst_eq, if_neg (by omega)]
              exact ⟨y1, y2, y3⟩
        have hE : RR W9 B (d 9 0) S2 M2 := by
          have hw : ways M2 (nBt (mSet M 0 0)) = ways (mSet M 0 0) (nBt (mSet M 0 0)) := ways_same _ (fun v _ => way_of (by rw [m 34 (by omega) (by omega) (by omega) (by omega)]) (by rw [m 37 (by omega) (by omega) (by omega) (by omega)]) (by rw [m 33 (by omega) (by omega) (by omega) (by omega)]) (by rw [m 35 (by omega) (by omega) (by omega) (by omega)]))
          exact ⟨d, np, N, (RRd_step h0d hR2 hi2 hw hch (hX 9 2 (by omega)) (fun i => hX 11 i (by omega)) (fun i => hX 12 i (by omega)) (c 22 ) (c 29 ) (m 27 (by omega) (by omega) (by omega) (by omega)) (m 28 (by omega) (by omega) (by omega) (by omega)) (m 33 (by omega) (by omega) (by omega) (by omega)) (m 34 (by omega) (by omega) (by omega) (by omega))).1⟩
        have hE0 : M2.1 0 = 0 := by rw [← hM2]; first | rfl | simp [mAst_1, mSet_1]
        exact hk _ _ (ans_1 hE (by rw [ho', hM2]) hE0 rfl)

