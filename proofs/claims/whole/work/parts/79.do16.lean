/-! The class's answers are the reference's: drop. -/

theorem Q_drop {W9 : xWd} {B a : Nat} {S : cS} {M : mS} {b : Int32} {k : Int32} {tt : Int32} {K : xRes → cS → Prop} (h : RR W9 B a S M) (hB15 : B + 15 ≤ 8000) (hk : ∀ r S2, ans [eB, eS] W9 (B + 15) a (oDrop M b k tt) r S2 → K r S2) : (spX7_drop W9).2 [.ref a, .int b, .int k, .int tt] S K := by
  have h0 := RR_set0 (z := 0) h
  have h00 := h0
  obtain ⟨d, np, N, h0d⟩ := h00
  have h0e := h0d
  obtain ⟨hd, rfl, hi, hR, hp, hl, hN, hB⟩ := h0e
  have g0 := hR.2.2.2.2.2.2.2.2.1.1
  obtain ⟨g7, g8, g9, g10, g11, g12, g13⟩ := hR.2.2.2.2.2.2.2.2.1.2.2
  have e29 : M.1 29 = nI (nBt M) := hi.1.1.1
  have e22 : M.1 22 = nI (nBg M) := hi.1.2.1.1
  have e46 : M.1 46 = nI (nCo M) := hi.1.2.2.1
  have b29 : nBt M ≤ 6 := hi.1.1.2
  have b22 : nBg M ≤ 24 := hi.1.2.1.2
  have b46 : nCo M ≤ 12 := hi.1.2.2.2
  have n29 : nBt (mSet M 0 0) = nBt M := rfl
  have n22 : nBg (mSet M 0 0) = nBg M := rfl
  have n46 : nCo (mSet M 0 0) = nCo M := rfl
  obtain ⟨f1, f2, f3, f4, f5, f6⟩ := R0_boats hR
  rw [n29] at f4 f5 f6
  obtain ⟨s1, s2, s3, s4, s5, s6⟩ := R0_barges hR
  rw [n22] at s4 s5 s6
  obtain ⟨v1, v2, v3, v4, v5, v6⟩ := R0_tiers hR
  have v5 : cFi S (d 6 1) 2 = nI 16 := v5
  have h' := RR_up h (show B ≤ B + 15 by omega) hB15
  have a806 := hR.2.2.2.2.2.2.2.2.1.2.1.2.2.2.2.2.2
  have e806 : cRf S (d 9 0) 806 = d 9 2 := by unfold cRf; rw [a806]; rfl
  have hL := rLst.dj hR.2.2.2.2.2.2.2.2.2.2
  have hst := rPg_L hp (show N < 8192 by omega)
  have e1 : ((0 ≤ b ∧ b < nI (nBt M)) ∧ (0 ≤ k ∧ k < nI (nBg M)) ∧ 0 ≤ tt ∧ tt < 2) ↔ (((0 ≤ b ∧ b ≤ M.1 29 - 1) ∧ 0 ≤ k ∧ k ≤ M.1 22 - 1) ∧ 0 ≤ tt ∧ tt ≤ 1) := by
    have et : (0 ≤ tt ∧ tt < 2) = (0 ≤ tt ∧ tt ≤ 1) := (le_m1 (k := tt) (n := 2) (by omega)).symm
    rw [e29, e22, le_m1 (by omega), le_m1 (by omega), et]
    exact ⟨fun z => ⟨⟨z.1, z.2.1⟩, z.2.2⟩, fun z => ⟨z.1.1, z.1.2, z.2⟩⟩
  rw [spwX7_drop, f2, s2, e806, f5, s5, v2]
  refine ⟨g0, ⟨f1, f3⟩, ⟨s1, s3⟩, ⟨⟨v1, v3⟩, v5⟩, a806, N, _, _, hst, fun q => hk _ _ (ans_e h' (z := 1) ?_ (by decide) rfl), fun vv => ?_⟩
  · unfold oDrop
    rw [if_pos (fun z => q (e1.mpr z))]
  have y0 := e1.mp vv
  obtain ⟨vw, vg, vt⟩ := vv
  rw [idx (by omega)] at vw vg
  rw [show (2 : Int32) = nI 2 from rfl, idx (by omega)] at vt
  obtain ⟨w, hw, rfl⟩ := vw
  obtain ⟨g, hg, rfl⟩ := vg
  obtain ⟨t0, ht0, rfl⟩ := vt
  obtain ⟨t1, t2, t3, t4, t5⟩ := R0_tow hR hi hw
  have t4 : rN S (d 5 w) = nW M w := t4
  obtain ⟨⟨w1, w2⟩, w3, w4⟩ := hi.2.2.2.1 w hw
  have w1 : M.2 42 w = nI (nW M w) := w1
  have w2 : nW M w ≤ 12 := w2
  have e504 : cFi S (d 5 w) 504 = M.2 40 w := (hR.2.2.1 w hw).2.2.2.2.2.1
  obtain ⟨pl, hpl, hpl0, hpl4⟩ := w3
  have hpl : M.2 40 w = nI pl := hpl
  have erp : rPc S (d 5 w) = pl := by unfold rPc; rw [e504, hpl, ix_nI (by omega)]
  obtain ⟨r, p, r1, r2, r3, r4, r5, -, r7, r6⟩ := R0_gp hd hR hi hg
  have er : cRf S (d 2 g) 102 = r := by unfold cRf; rw [r1]; rfl
  have ep : mPlc M (nI g) = p := r7
  obtain ⟨b207, -, b206, -⟩ := R0_bfld hR hw
  obtain ⟨-, -, bbb⟩ := hi.2.2.2.2.2.2.1 w hw
  have e100 : cFi S (d 2 g) 100 = nI g := (hR.2.2.2.1 g hg).2.1
  have e205 : cFi S (d 4 w) 205 = M.2 39 w := (hR.2.2.2.2.2.1 w hw).2.2.2.2.2.2.1
  have hLw : isL (mSet M 0 0) 8 w := Or.inr (Or.inr ⟨rfl, hw⟩)
  have hpn : p < 1000 := by have := r2.2.2.1.2.2.1; unfold rN at r4; omega
  have ew : (nI w).toNatClampNeg = w := ix_nI (by omega)
  have eg : (nI g).toNatClampNeg = g := ix_nI (by omega)
  have e42 : (M.2 42 w).toNatClampNeg = nW M w := rfl
  have hcA : (cFi S (d 4 w) 207 = -1 ∧ r = d 5 w) ↔ (M.2 34 w = -1 ∧ M.2 28 g = nI w) := by
    rw [b207]
    refine and_congr_right fun _ => ⟨fun z => ?_, fun z => ?_⟩
    · rcases r6 with ⟨-, t, ht, -, e, -⟩ | ⟨v, hv, ev, e, -⟩
      · rw [e] at z
        exact absurd z (hd.ne (by omega))
      · rw [e] at z
        have := (hd _ _ _ _ z).2
        rw [← this]
        exact ev
    · rcases r6 with ⟨y, -⟩ | ⟨v, hv, ev, e, -⟩
      · have y : M.2 28 g = -1 := y
        rw [y] at z
        exact absurd z.symm (nI_m1 (by omega))
      · have ev : M.2 28 g = nI v := ev
        have hv : v < nBt M := hv
        rw [ev, eq_nI (by omega) (by omega)] at z
        rw [e, z]
  have hall : ∀ q : oDrop M (nI w) (nI g) (nI t0) = (0, mSet M 0 2), ans [eB, eS] W9 (B + 15) (d 9 0) (oDrop M (nI w) (nI g) (nI t0)) (rX eS) S := fun q => ans_e h' (z := 2) q (by decide) rfl
  rw [ew, eg, f6 w hw, s6 g hg, t1, er, t3, t4, erp, e100, e205, hcA]
  have hfacts : M.2 34 w = -1 ∧ M.2 28 g = nI w → ∃ a, a < 8 ∧ M.2 33 w = nI a ∧ cFi S (d 4 w) 206 = nI a := fun z => by
    obtain ⟨-, y1, -⟩ := bbb.resolve_right (fun q => vin_m1 ((show M.2 34 w = -1 from z.1) ▸ q.1))
    obtain ⟨a, ha, ea, -⟩ := nx_nat y1 (by omega)
    exact ⟨a, ha, ea, (b206 z.1).1.trans ea⟩
  have hidx : ∀ a, a < 8 → (nI a * 2 + nI t0).toNatClampNeg = 2 * a + t0 ∧ (2 * nI a + nI t0).toNatClampNeg = 2 * a + t0 ∧ 2 * nI a + nI t0 = nI (2 * a + t0) := fun a ha => by
    have e : 2 * nI a + nI t0 = nI (2 * a + t0) := by rw [m2_nI, add_nI]
    refine ⟨?_, by rw [e, ix_nI (by omega)], e⟩
    rw [Int32.mul_comm, e, ix_nI (by omega)]
  refine ⟨⟨t2, R0_gOk hd hR hi hg, hL.1 8 w hLw, ⟨by rw [e504, hpl], hpl0, hpl4⟩, by omega, fun cA => ?_⟩, fun q => hk _ _ (hall ?_), fun cA => ?_⟩
  · obtain ⟨a, ha, ea, e206⟩ := hfacts cA
    have hs16 : 2 * a + t0 < 16 := by omega
    rw [e206, (hidx a ha).1, v6 _ hs16]
    obtain ⟨-, u2, u3, -, u5⟩ := R0_tier hR hi hs16
    have h5 := iTie_n hi.2.2.1 hs16
    have hLs : isL (mSet M 0 0) 7 (2 * a + t0) := Or.inr (Or.inl ⟨rfl, hs16⟩)
    refine ⟨⟨pos_nI (by omega), by rw [show (8 : Int32) = nI 8 from rfl]; exact lt0_nI ha (by omega)⟩, u5.2.1, by rw [u2]; exact hL.1 7 _ hLs, by rw [u3]; omega, lAll_kd (c := 2) ⟨u5.2.2.1, u5.2.2.2⟩ (by unfold cEl; omega), by rw [u2]; exact hd.ne (by omega), ?_⟩
    rw [u2]
    by_cases y : cRf S (d 7 (2 * a + t0)) 1 = cRf S (d 8 w) 1
    · exact (hL.2 7 _ 8 w hLs hLw y).elim Or.inl (fun z => by omega)
    · exact Or.inr y
  · unfold oDrop
    rw [if_neg (not_not_intro y0), if_pos]
    refine Or.inl (fun z => q ?_)
    rw [ew, eg] at z
    exact ⟨z.1, z.2.1⟩
  · obtain ⟨a, ha, ea, e206⟩ := hfacts cA
    have hs16 : 2 * a + t0 < 16 := by omega
    obtain ⟨i1, i2, i3⟩ := hidx a ha
    rw [e206, i1, v6 _ hs16]
    obtain ⟨s, hs⟩ : ∃ s, 2 * a + t0 = s := ⟨_, rfl⟩
    rw [hs] at hs16 i2 i3 ⊢
    obtain ⟨-, u2, u3, -, -⟩ := R0_tier hR hi hs16
    have hLs : isL (mSet M 0 0) 7 s := Or.inr (Or.inl ⟨rfl, hs16⟩)
    have e503 : cFi S (d 1 s) 503 = M.2 17 s := (hR.2.1 s hs16).2.2.2.2.1
    have i18 : M.2 18 s = nI (nT M s) := (hi.2.2.1 s hs16).1
    have esz : cFi S (d 7 s) 2 = M.2 18 s := by
      rw [(hL.1 7 s hLs).2.1, ← u2]
      show nI (rN S (d 1 s)) = _
      rw [u3]
      exact i18.symm
    -- the barge lies in the tow
    obtain ⟨rfl, e41⟩ : r = d 5 w ∧ M.2 41 (12 * w + p) = nI g := by
      rcases r6 with ⟨y, -⟩ | ⟨v, hv, ev, e, -, e41⟩
      · have y : M.2 28 g = -1 := y
        have := cA.2
        rw [y] at this
        exact absurd this.symm (nI_m1 (by omega))
      · have ev : M.2 28 g = nI v := ev
        have hv : v < nBt M := hv
        have := cA.2
        rw [ev, eq_nI (by omega) (by omega)] at this
        subst this
        exact ⟨e, e41⟩
    rw [t4] at r3 r4
    have erP : rP S (d 5 w) (d 2 g) = p := by unfold rP; rw [t4, r3, ix_nI hpn]
    have hbh : rBh S (d 5 w) (d 2 g) 0 = nI (nW M w - 1 - p) := by
      unfold rBh
      rw [erP, rCt_0, t4, show nW M w - (p + 1) = nW M w - 1 - p by omega]
    have ev1 : M.2 39 w + (1 + nI (nW M w - 1 - p)) = M.2 39 w + nI (nW M w - p) := by
      rw [show (1 : Int32) = nI 1 from rfl, add_nI, show 1 + (nW M w - 1 - p) = nW M w - p by omega]
    rw [u2, esz, e503, r3, erP, hbh, ev1]
    have hv41 : ∀ i, (mLv M w p (nW M w)).2 41 i = if 12 * w + p ≤ i ∧ i < 12 * w + p + (nW M w - 1 - p) then M.2 41 (i + 1) else M.2 41 i := fun i => by
      unfold mLv
      rw [mShL_2, mAst_ne (by omega)]
      by_cases z : 12 * w + p ≤ i ∧ i < 12 * w + p + (nW M w - 1 - p)
      · rw [if_pos z, if_pos ⟨rfl, z⟩]
      · rw [if_neg z, if_neg (fun y => z y.2)]
    have hvo : ∀ k, k ≠ 41 → k ≠ 42 → (mLv M w p (nW M w)).2 k = M.2 k := fun k a b => by
      funext i
      unfold mLv
      rw [mShL_2, if_neg (fun z => a z.1), mAst_ne b]
    have hdg : (rDg S (d 5 w) (nI p) none pl (nW M w + 1) = true) ↔ (mDgr (mLv M w p (nW M w)) w (nW M w - 1) = true) := by
      have e40 : ((mLv M w p (nW M w)).2 40 w).toNatClampNeg = pl := by rw [hvo 40 (by omega) (by omega), hpl, ix_nI (by omega)]
      unfold mDgr
      rw [e40]
      have hix : ∀ i, i < nW M w → ∃ g2, g2 < nBg M ∧ M.2 41 (12 * w + i) = nI g2 := fun i hi2 => by
        obtain ⟨g2, hg2, e, -⟩ := w4 i hi2
        exact ⟨g2, hg2, e⟩
      refine dg_eq (d := d) (S := S) (M := mSet M 0 0) (f := fun i => (M.2 41 (12 * w + (if p ≤ i then i + 1 else i))).toNatClampNeg) hR.2.2.2.1 hi (hvo 23 (by omega) (by omega)) (hvo 24 (by omega) (by omega)) hpl0 (fun i hi2 => ?_) (fun i => ?_) (fun i hi2 => ?_) (by omega)
      · show (M.2 41 (12 * w + (if p ≤ i then i + 1 else i))).toNatClampNeg < nBg M
        obtain ⟨g2, hg2, e⟩ := hix (if p ≤ i then i + 1 else i) (by split <;> omega)
        rw [e, ix_nI (by omega)]
        exact hg2
      · unfold rSeen
        rw [t4]
        rcases Nat.lt_or_ge i 500 with y | y
        · have ec : (nI p ≠ -1 ∧ nI p ≤ nI i) = (p ≤ i) := by
            rw [le_nI (by omega) (by omega)]
            exact propext ⟨fun z => z.2, fun z => ⟨nI_m1 (by omega), z⟩⟩
          simp only [ec]
          rcases Nat.lt_or_ge i p with yp | yp
          · have e9 : (if p ≤ i then i + 1 else i) = i := if_neg (by omega)
            simp only [e9]
            rw [if_neg (by omega), if_pos (by omega), if_pos (by omega), t5 _ (by omega)]
            rfl
          · have e9 : (if p ≤ i then i + 1 else i) = i + 1 := if_pos yp
            simp only [e9]
            by_cases z1 : i + 1 = nW M w
            · rw [if_pos z1, if_neg (by omega)]
            · rw [if_neg z1]
              by_cases z2 : i + 1 < nW M w
              · rw [if_pos z2, if_pos (by omega), t5 _ z2]
                rfl
              · rw [if_neg z2, if_neg (by omega)]
        · rw [if_neg (by split <;> omega), if_neg (by split <;> omega), if_neg (by omega)]
      · show (mLv M w p (nW M w)).2 41 (12 * w + i) = nI (M.2 41 (12 * w + (if p ≤ i then i + 1 else i))).toNatClampNeg
        obtain ⟨g2, hg2, e⟩ := hix (if p ≤ i then i + 1 else i) (by split <;> omega)
        rw [e, ix_nI (by omega), ← e, hv41]
        by_cases z : p ≤ i
        · rw [if_pos (by omega), if_pos z]
          rfl
        · rw [if_neg (by omega), if_neg z]
    have hcdI : mCdI M (nI w) (nI g) = bi (¬ mDgr (mLv M w p (nW M w)) w (nW M w - 1) = true) := by
      unfold mCdI
      rw [ew, ep, e42]
    have hcdI0 : (mCdI M (nI w) (nI g) = 0) = (mDgr (mLv M w p (nW M w)) w (nW M w - 1) = true) := by
      rw [hcdI, bi_0]
      exact propext Classical.not_not
    refine ⟨fun q => hk _ _ (hall ?_), fun cB x9 S2 hA S6 hT => ?_⟩
    · unfold oDrop
      rw [if_neg (not_not_intro y0), if_pos]
      by_cases z : M.2 18 s < M.2 17 s
      · refine Or.inr ?_
        rw [hcdI0]
        refine hdg.mp ?_
        rw [← Bool.not_eq_false]
        exact fun y => q ⟨z, y⟩
      · refine Or.inl (fun y => z ?_)
        rw [ew, ea, i2] at y
        exact y.2.2
    · have ho' : oDrop M (nI w) (nI g) (nI t0) = (nI (nW M w - 1), mTies (mLv (mAst (mSet M 0 0) 39 w (M.2 39 w + nI (nW M w - p))) w p (nW M w)) (nI g) (nI s)) := by
        unfold oDrop
        rw [if_neg (not_not_intro y0), if_neg]
        · rw [ew, ea, i3, ep, e42]
        · rintro (y | y)
          · refine y ⟨?_, ?_, ?_⟩
            · rw [ew]; exact cA.1
            · rw [eg]; exact cA.2
            · rw [ew, ea, i2]; exact cB.1
          · rw [hcdI0] at y
            have := hdg.mpr y
            rw [cB.2] at this
            cases this
      generalize hv1 : M.2 39 w + nI (nW M w - p) = v1 at *
      obtain ⟨hR5, hi5, ff⟩ := R0_drp (n := nW M w) (j := nT M s) (v1 := v1) hd hR hi hw hg hs16 cA.2 rfl r4 e41 rfl cB.1 hA hv1.symm
      have hnT5 : nT M s < 5 := by
        have h5 := iTie_n hi.2.2.1 hs16
        have h5 : nT M s ≤ 5 := h5
        obtain ⟨-, ⟨a1, a2⟩, -⟩ := hi.2.2.1 s hs16
        have z1 := Int32.lt_iff_toInt_lt.mp cB.1
        have z2 : (M.2 17 s).toInt ≤ (5 : Int32).toInt := Int32.le_iff_toInt_le.mp a2
        rw [i18, nI_toInt (by omega)] at z1
        have e5 : (5 : Int32).toInt = 5 := by decide
        rw [e5] at z2
        omega
      obtain ⟨m, -, -, -, r28, r27, -, -, c0⟩ := mDrp_v (M := mSet M 0 0) (w := w) (g := g) (s := s) (p := p) (n := nW M w) (j := nT M s) (v := v1) (show w < 6 by omega) (show g < 24 by omega) hs16 w2 r4 i18 hnT5
      generalize hM2 : mTies (mLv (mAst (mSet M 0 0) 39 w v1) w p (nW M w)) (nI g) (nI s) = M2 at *
      have c : ∀ k, M2.1 k = (mSet M 0 0).1 k := fun k => congrFun c0 k
      have hX4 : ∀ (k i : Nat), ¬ (k = 4) → ¬ (d k i = d 4 w) := fun k i a1 y => a1 (hd _ _ _ _ y).1
      have hX2 : ∀ (k i : Nat), ¬ (k = 2) → ¬ (d k i = d 2 g) := fun k i a1 y => a1 (hd _ _ _ _ y).1
      have hch0 : chg S (cSetI S (d 4 w) 205 v1) (fun y => y = d 4 w) := chg.sI (X := fun y => y = d 4 w) (chg.rf (X := fun y => y = d 4 w)) rfl
      have hch5 : chg S2 (cSetR S2 (d 2 g) 102 (some (d 1 s))) (fun y => y = d 2 g) := chg.sR (X := fun y => y = d 2 g) (chg.rf (X := fun y => y = d 2 g)) rfl
      obtain ⟨hp1, hU1, hq1⟩ := hp.keep hch0 (hX4 9 2 (by omega)) (fun i => hX4 11 i (by omega)) (fun i => hX4 12 i (by omega))
      obtain ⟨hp2, hU2, hq2⟩ := hp1.fr ff rfl (fun j _ => rfl) (fun j _ => rfl)
      obtain ⟨hp3, hU3, hq3⟩ := hp2.keep hch5 (hX2 9 2 (by omega)) (fun i => hX2 11 i (by omega)) (fun i => hX2 12 i (by omega))
      have hnp := hp.2.1
      rw [← hU1 (np - 1), ← hU2 (np - 1) (by omega), ← hU3 (np - 1)] at hT
      have n22' : nBg M2 = nBg M := by unfold nBg; rw [c 22]; rfl
      have n29' : nBt M2 = nBt M := by unfold nBt; rw [c 29]; rfl
      obtain ⟨d2, np2, j1, j2, j3, j4, j5, j6, j7⟩ := R0_tell hd hR5 hi5 hp3 (show N < 8192 by omega) hT
      obtain ⟨z1, z2, z3⟩ := note_dec 0 (by omega) g (by omega) a ha
      have z1 : cNote 0 (nI g) (nI a) >>> (16 &&& 31) = nI 0 := z1
      have hways : ways M2 (nBt M) = ways (mSet M 0 0) (nBt M) := ways_same _ (fun v _ => way_of (by rw [m 34 (by omega) (by omega) (by omega) (by omega) (by omega) (by omega) (by omega)]) (by rw [m 37 (by omega) (by omega) (by omega) (by omega) (by omega) (by omega) (by omega)]) (by rw [m 33 (by omega) (by omega) (by omega) (by omega) (by omega) (by omega) (by omega)]) (by rw [m 35 (by omega) (by omega) (by omega) (by omega) (by omega) (by omega) (by omega)]))
      have hE : RR W9 (B + 15) (d 9 0) S6 M2 := by
        refine ⟨d2, np2, N + 1, j1, j2 9 0 (us9 (by omega)), hi5, j4, j5, ⟨fun y hy => ?_, fun v hv => ?_⟩, by rw [n29', hways]; rw [n29] at hN; omega, hB15⟩
        · rw [n22'] at hy
          rw [j6, r28, r27]
          by_cases q : y = g
          · rw [if_pos ⟨Or.inl z1, by rw [q]; exact z2⟩, if_pos q, if_pos rfl, if_pos q, q, nI_half hs16, show s / 2 = a by omega]
          · rw [if_neg (fun y2 => by
              have := y2.2
              have e : cNote 0 (nI g) (nI a) >>> (8 &&& 31) &&& 255 = nI g := z2
              rw [e, eq_nI (by omega) (by omega)] at this
              exact q this.symm), if_neg q, if_neg q, hq3, hq2, hq1]
            exact hl.1 y (by rw [n22]; exact hy)
        · rw [n29'] at hv
          rw [j6, if_neg (fun y2 => by
            have := y2.1
            rw [z1] at this
            rcases this with y | y <;> exact absurd y (by decide)), m 33 (by omega) (by omega) (by omega) (by omega) (by omega) (by omega) (by omega), m 34 (by omega) (by omega) (by omega) (by omega) (by omega) (by omega) (by omega), hq3, hq2, hq1]
          exact hl.2 v (by rw [n29]; exact hv)
      exact hk _ _ (ans_1 hE ho' (by rw [c 0]; exact mSet_eq) rfl)

