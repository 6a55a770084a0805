/-! The class's answers are the reference's: couple. -/

/-- what lies behind a tow's end is of no account -/
theorem RR_41 {W9 : xWd} {B a : Nat} {S : cS} {M : mS} {w : Nat} {x : Int32} (h : RR W9 B a S M) (hw : w < nBt M) (h12 : nW M w < 12) : RR W9 B a S (mAst M 41 (12 * w + nW M w) x) := by
  obtain ⟨d, np, N, hd, ha, hi, hR, hp, hl, hN, hB⟩ := h
  have m : ∀ k, k ≠ 41 → (mAst M 41 (12 * w + nW M w) x).2 k = M.2 k := fun k hk => mAst_ne hk
  have r41 : ∀ v, v < nBt M → ∀ i, i < nW M v → (mAst M 41 (12 * w + nW M w) x).2 41 (12 * v + i) = M.2 41 (12 * v + i) := fun v hv i hi2 => by
    have h1 := (hi.2.2.2.1 v hv).1.2
    have h2 := (hi.2.2.2.1 w hw).1.2
    rw [mAst_eq, if_neg]
    intro z
    by_cases q : v = w
    · rw [q] at z hi2; omega
    · omega
  have nW2 : ∀ v, nW (mAst M 41 (12 * w + nW M w) x) v = nW M v := fun v => by
    show ((mAst M 41 (12 * w + nW M w) x).2 42 v).toNatClampNeg = (M.2 42 v).toNatClampNeg
    rw [m 42 (by omega)]
  obtain ⟨h1, h2, h3, h4, h5, h6, h7, h8, h9, h10, ⟨l0, l5, l6, l7⟩⟩ := hR
  refine ⟨d, np, N, hd, ha, ⟨hi.1.mono rfl rfl rfl, hi.2.1.mono (m 9 (by omega)) (m 7 (by omega)) (m 5 (by omega)) (m 15 (by omega)), hi.2.2.1.mono (m 18 (by omega)) (m 17 (by omega)) (m 19 (by omega)) (m 28 (by omega)) (m 27 (by omega)) rfl, ?_, ?_, hi.2.2.2.2.2.1.mono (m 47 (by omega)) (m 48 (by omega)) (m 49 (by omega)) (m 51 (by omega)) rfl, hi.2.2.2.2.2.2.1.mono (m 37 (by omega)) (m 35 (by omega)) (m 34 (by omega)) (m 33 (by omega)) (m 36 (by omega)) rfl, hi.2.2.2.2.2.2.2.1.mono (m 45 (by omega)) rfl, hi.2.2.2.2.2.2.2.2.1.mono (m 32 (by omega)) (m 39 (by omega)) (m 42 (by omega)) (m 43 (by omega)) (m 44 (by omega)) (m 53 (by omega)) (m 54 (by omega)) (m 55 (by omega)) (m 35 (by omega)) rfl rfl, hi.2.2.2.2.2.2.2.2.2.mono (m 20 (by omega)) rfl rfl⟩, ⟨h1.mono (fun s z => sm.rf) (m _ (by omega)) (m _ (by omega)) (m _ (by omega)) (m _ (by omega)) (m _ (by omega)) (m _ (by omega)) (m _ (by omega)) (m _ (by omega)) (m _ (by omega)) (m _ (by omega)) (m _ (by omega)) (m _ (by omega)), h2.mono (fun s z => sm.rf) (m _ (by omega)), h3.mono (fun s z => sm.rf) (m _ (by omega)) rfl, h4.mono (fun s z => sm.rf) (m _ (by omega)) (m _ (by omega)) (m _ (by omega)) (m _ (by omega)) (m _ (by omega)) (m _ (by omega)) rfl, h5.mono (fun s z => sm.rf) (m _ (by omega)) (m _ (by omega)) (m _ (by omega)) (m _ (by omega)) (m _ (by omega)) (m _ (by omega)) (m _ (by omega)) (m _ (by omega)) (m _ (by omega)) (m _ (by omega)) (m _ (by omega)) rfl rfl, h6.mono (fun s z => sm.rf) (m _ (by omega)) (m _ (by omega)) (m _ (by omega)) (m _ (by omega)) (m _ (by omega)) (m _ (by omega)) (m _ (by omega)) (m _ (by omega)) (m _ (by omega)) (m _ (by omega)) (m _ (by omega)) rfl, h7.mono (fun s z => sm.rf) (m _ (by omega)) rfl, h8.mono (fun s z => sm.rf) (m _ (by omega)) rfl, h9.mono sm.rf rfl rfl rfl rfl rfl rfl rfl, h10.mono sm.rf (m _ (by omega)) (m _ (by omega)) rfl, ⟨l0, ?_, ?_, l7⟩⟩, hp, ⟨fun g hg => ?_, fun v hv => ?_⟩, ?_, hB⟩
  · intro v hv
    obtain ⟨i1, i2, i3⟩ := hi.2.2.2.1 v hv
    rw [nW2, m 42 (by omega), m 28 (by omega)]
    refine ⟨i1, by unfold mWk; rw [m 40 (by omega)]; exact i2, fun i hi2 => ?_⟩
    rw [r41 v hv i hi2]
    exact i3 i hi2
  · intro g hg
    obtain ⟨i1, i2, i3⟩ := hi.2.2.2.2.1 g hg
    have eT : ∀ t, nT (mAst M 41 (12 * w + nW M w) x) t = nT M t := fun t => by unfold nT; rw [m 18 (by omega)]
    refine ⟨?_, by rw [m 24 (by omega), m 25 (by omega)]; exact i2, by rw [m 23 (by omega)]; exact i3⟩
    rw [m 28 (by omega), m 27 (by omega), m 19 (by omega)]
    simp only [eT, nW2]
    refine i1.imp id (fun ⟨v, p, hv, e, hp2, ep, hu⟩ => ⟨v, p, hv, e, hp2, (r41 v hv p hp2).trans ep, fun q hq he => hu q hq ((r41 v hv q hq).symm.trans he)⟩)
  · intro t ht
    unfold nT
    rw [m 18 (by omega), m 19 (by omega)]
    exact l5 t ht
  · intro v hv
    have hv : v < nBt M := hv
    rw [nW2]
    exact (l6 v hv).fn (fun i hi2 => by rw [r41 v hv i hi2])
  · rw [m 28 (by omega), m 27 (by omega)]
    exact hl.1 g hg
  · rw [m 34 (by omega), m 33 (by omega)]
    exact hl.2 v hv
  · rw [show ways (mAst M 41 (12 * w + nW M w) x) (nBt (mAst M 41 (12 * w + nW M w) x)) = ways M (nBt M) from ways_same2 (M := M) rfl (fun k hk => m k (by omega))]
    exact hN

theorem Q_couple {W9 : xWd} {B a : Nat} {S : cS} {M : mS} {b : Int32} {k : Int32} {K : xRes → cS → Prop} (h : RR W9 B a S M) (hB15 : B + 15 ≤ 8000) (hk : ∀ r S2, ans [eB, eS] W9 (B + 15) a (oCouple M b k) r S2 → K r S2) : (spX7_couple W9).2 [.ref a, .int b, .int k] S K := by
  have h0 := RR_set0 (z := 0) h
  have h00 := h0
  obtain ⟨d, np, N, h0d⟩ := h00
  have h0e := h0d
  obtain ⟨hd, rfl, hi, hR, hp, hl, hN, hB⟩ := h0e
  have g0 := hR.2.2.2.2.2.2.2.2.1.1
  obtain ⟨g7, g8, g9, g10, g11, g12, g13⟩ := hR.2.2.2.2.2.2.2.2.1.2.2
  have e29 : M.1 29 = nI (nBt M) := hi.1.1.1
  have e22 : M.1 22 = nI (nBg M) := hi.1.2.1.1
  have e46 : M.1 46 = nI (nCo M) := hi.1.2.2.1
  have b29 : nBt M ≤ 6 := hi.1.1.2
  have b22 : nBg M ≤ 24 := hi.1.2.1.2
  have b46 : nCo M ≤ 12 := hi.1.2.2.2
  have n29 : nBt (mSet M 0 0) = nBt M := rfl
  have n22 : nBg (mSet M 0 0) = nBg M := rfl
  have n46 : nCo (mSet M 0 0) = nCo M := rfl
  obtain ⟨f1, f2, f3, f4, f5, f6⟩ := R0_boats hR
  rw [n29] at f4 f5 f6
  obtain ⟨s1, s2, s3, s4, s5, s6⟩ := R0_barges hR
  rw [n22] at s4 s5 s6
  have h' := RR_up h (show B ≤ B + 15 by omega) hB15
  have a806 := hR.2.2.2.2.2.2.2.2.1.2.1.2.2.2.2.2.2
  have e806 : cRf S (d 9 0) 806 = d 9 2 := by unfold cRf; rw [a806]; rfl
  have hL := rLst.dj hR.2.2.2.2.2.2.2.2.2.2
  have hst := rPg_L hp (show N < 8192 by omega)
  have e1 : ((0 ≤ b ∧ b < nI (nBt M)) ∧ 0 ≤ k ∧ k < nI (nBg M)) = ((0 ≤ b ∧ b ≤ M.1 29 - 1) ∧ 0 ≤ k ∧ k ≤ M.1 22 - 1) := by rw [e29, e22, le_m1 (by omega), le_m1 (by omega)]
  rw [spwX7_couple, f2, s2, e806, f5, s5, e1]
  refine ⟨g0, ⟨f1, f3⟩, ⟨s1, s3⟩, a806, N, _, _, hst, fun q => hk _ _ (ans_e h' (z := 1) ?_ (by decide) rfl), fun v => ?_⟩
  · unfold oCouple
    rw [if_pos q]
  have y0 := v
  rw [← e1, idx (by omega), idx (by omega)] at v
  obtain ⟨⟨w, hw, rfl⟩, ⟨g, hg, rfl⟩⟩ := v
  obtain ⟨t1, t2, t3, t4, t5⟩ := R0_tow hR hi hw
  have t4 : rN S (d 5 w) = nW M w := t4
  obtain ⟨⟨w1, w2⟩, w3, w4⟩ := hi.2.2.2.1 w hw
  have w1 : M.2 42 w = nI (nW M w) := w1
  have w2 : nW M w ≤ 12 := w2
  have e504 : cFi S (d 5 w) 504 = M.2 40 w := (hR.2.2.1 w hw).2.2.2.2.2.1
  have e503 : cFi S (d 5 w) 503 = 12 := (hR.2.2.1 w hw).2.2.2.2.1
  obtain ⟨pl, hpl, hpl0, hpl4⟩ := w3
  have hpl : M.2 40 w = nI pl := hpl
  have erp : rPc S (d 5 w) = pl := by unfold rPc; rw [e504, hpl, ix_nI (by omega)]
  obtain ⟨r, p, r1, r2, r3, r4, r5, -, r7, r6⟩ := R0_gp hd hR hi hg
  have er : cRf S (d 2 g) 102 = r := by unfold cRf; rw [r1]; rfl
  obtain ⟨x1, x2⟩ := R0_bh hd hR hi hg
  rw [er] at x1 x2
  obtain ⟨b207, -, b206, -⟩ := R0_bfld hR hw
  have e100 : cFi S (d 2 g) 100 = nI g := (hR.2.2.2.1 g hg).2.1
  have e200 : cFi S (d 4 w) 200 = nI w := (hR.2.2.2.2.2.1 w hw).2.1
  have hLw : isL (mSet M 0 0) 8 w := Or.inr (Or.inr ⟨rfl, hw⟩)
  have hpn : p < 1000 := by have := r2.2.2.1.2.2.1; unfold rN at r4; omega
  have erP : rP S r (d 2 g) = p := by unfold rP; rw [r3, ix_nI hpn]
  have hcond : (cFi S (d 4 w) 207 = -1 ∧ cFi S r 500 = -1 ∧ cFi S r 501 = cFi S (d 4 w) 206) ↔ (M.2 34 w = -1 ∧ M.2 28 g = -1 ∧ M.2 27 g / 2 = M.2 33 w) := by
    rw [b207]
    constructor
    · rintro ⟨a1, a2, a3⟩
      have z : M.2 28 g = -1 := Classical.byContradiction (fun z => (x2 z).2.2 a2)
      rw [(x1 z).2.2, (b206 a1).1] at a3
      exact ⟨a1, z, a3⟩
    · rintro ⟨a1, a2, a3⟩
      refine ⟨a1, (x1 a2).2.1, ?_⟩
      rw [(x1 a2).2.2, (b206 a1).1]
      exact a3
  have hrl : lCap W9 S (rL S r) := by
    rcases r6 with ⟨-, t, ht, -, rfl, -⟩ | ⟨v, hv, -, rfl, -⟩
    · rw [(R0_tier hR hi ht).2.1]; exact hL.1 7 t (Or.inr (Or.inl ⟨rfl, ht⟩))
    · rw [(R0_tow hR hi hv).2.2.1]; exact hL.1 8 v (Or.inr (Or.inr ⟨rfl, hv⟩))
  have tier : M.2 28 g = -1 → ∃ t, t < 16 ∧ M.2 27 g = nI t ∧ r = d 1 t ∧ rN S r = nT M t ∧ M.2 19 (5 * t + p) = nI g := fun z => by
    rcases r6 with ⟨-, y⟩ | ⟨v, hv, ev, -⟩
    · exact y
    · have ev : M.2 28 g = nI v := ev
      rw [z] at ev
      exact absurd ev.symm (nI_m1 (by omega))
  have h12m : (12 * nI w + M.2 42 w).toNatClampNeg = 12 * w + nW M w := by rw [w1, m12_nI, add_nI, ix_nI (by omega)]
  have hcd : mCcd M (nI w) (nI g) ↔ ((M.2 34 w = -1 ∧ M.2 28 g = -1 ∧ M.2 27 g / 2 = M.2 33 w) ∧ nW M w < 12) := by
    unfold mCcd
    rw [ix_nI (show w < 1000 by omega), ix_nI (show g < 1000 by omega), w1, show (12 : Int32) = nI 12 from rfl, eq_nI (by omega) (by omega)]
    constructor
    · rintro ⟨a1, a2, a3, a4⟩
      exact ⟨⟨a1, a2, a3⟩, by omega⟩
    · rintro ⟨⟨a1, a2, a3⟩, a4⟩
      exact ⟨a1, a2, a3, by omega⟩
  have hc1 : mCcd M (nI w) (nI g) → mCc1 M (nI w) (nI g) = mAst M 41 (12 * w + nW M w) (nI g) := fun z => by
    unfold mCc1
    rw [if_pos z, ix_nI (show w < 1000 by omega), h12m]
  have hfail : mCcr M (nI w) (nI g) = 0 → ans [eB, eS] W9 (B + 15) (d 9 0) (oCouple M (nI w) (nI g)) (rX eS) S := fun z => by
    have ho : oCouple M (nI w) (nI g) = (0, mSet (mCc1 M (nI w) (nI g)) 0 2) := by
      unfold oCouple
      rw [if_neg (not_not_intro y0), if_pos z]
    refine ans_e (z := 2) (M := mCc1 M (nI w) (nI g)) ?_ ho (by decide) rfl
    by_cases q : mCcd M (nI w) (nI g)
    · rw [hc1 q]
      exact RR_41 h' hw (hcd.mp q).2
    · have : mCc1 M (nI w) (nI g) = M := by unfold mCc1; rw [if_neg q]
      rw [this]
      exact h'
  have hdg : mCcd M (nI w) (nI g) → ((rDg S (d 5 w) (-1) (some (d 2 g)) pl (nW M w + 1) = true) ↔ (mDgr (mCc1 M (nI w) (nI g)) w (nW M w + 1) = true)) := fun z => by
    have h12 := (hcd.mp z).2
    have e40 : ((mAst M 41 (12 * w + nW M w) (nI g)).2 40 w).toNatClampNeg = pl := by
      rw [mAst_ne (by omega), hpl, ix_nI (by omega)]
    rw [hc1 z]
    unfold mDgr
    rw [e40]
    have hidx : ∀ i, i < nW M w → ∃ g2, g2 < nBg M ∧ M.2 41 (12 * w + i) = nI g2 := fun i hi2 => by
      obtain ⟨g2, hg2, e, -⟩ := w4 i hi2
      exact ⟨g2, hg2, e⟩
    refine dg_eq (d := d) (S := S) (M := mSet M 0 0) (f := fun i => if i < nW M w then (M.2 41 (12 * w + i)).toNatClampNeg else g) hR.2.2.2.1 hi (mAst_ne (by omega)) (mAst_ne (by omega)) hpl0 (fun i hi2 => ?_) (fun i => ?_) (fun i hi2 => ?_) (Nat.le_refl _)
    · show (if i < nW M w then (M.2 41 (12 * w + i)).toNatClampNeg else g) < nBg M
      split
      · rename_i y
        obtain ⟨g2, hg2, e⟩ := hidx i y
        rw [e, ix_nI (by omega)]
        exact hg2
      · exact hg
    · unfold rSeen
      rw [t4]
      simp only [ne_eq, not_true_eq_false, false_and, if_false]
      by_cases y : i = nW M w
      · rw [if_pos y, if_pos (by omega), if_neg (by omega)]
      · by_cases y2 : i < nW M w
        · rw [if_neg y, if_pos y2, if_pos (by omega), if_pos y2, t5 i y2]
          rfl
        · rw [if_neg y, if_neg y2, if_neg (by omega)]
    · show (mAst M 41 (12 * w + nW M w) (nI g)).2 41 (12 * w + i) = nI (if i < nW M w then (M.2 41 (12 * w + i)).toNatClampNeg else g)
      rw [mAst_eq]
      by_cases y : i < nW M w
      · obtain ⟨g2, hg2, e⟩ := hidx i y
        rw [if_neg (by omega), if_pos y, e, ix_nI (by omega)]
      · rw [if_pos (by omega), if_neg y]
  have h40 : (M.2 42 w + 1).toNatClampNeg = nW M w + 1 := by rw [w1, nI1, ix_nI (by omega)]
  have hc0 : ¬ (mCcd M (nI w) (nI g) ∧ ¬ mDgr (mCc1 M (nI w) (nI g)) w (nW M w + 1) = true) → mCcr M (nI w) (nI g) = 0 := fun q => by
    unfold mCcr
    exact if_neg (fun z => q ⟨z.1, by have := z.2; rw [ix_nI (show w < 1000 by omega), h40] at this; exact this⟩)
  have hc2 : (mCcd M (nI w) (nI g) ∧ ¬ mDgr (mCc1 M (nI w) (nI g)) w (nW M w + 1) = true) → mCcr M (nI w) (nI g) = 1 := fun q => by
    unfold mCcr
    exact if_pos ⟨q.1, by rw [ix_nI (show w < 1000 by omega), h40]; exact q.2⟩
  have elt : (nI (nW M w) < (12 : Int32)) = (nW M w < 12) := by rw [show (12 : Int32) = nI 12 from rfl, lt_nI (by omega) (by omega)]
  rw [ix_nI (show w < 1000 by omega), ix_nI (show g < 1000 by omega), f6 w hw, s6 g hg, t1, er, t3, t4, erp, e503, e100, e200, erP, hcond, elt]
  refine ⟨⟨t2, R0_gOk hd hR hi hg, hL.1 8 w hLw, hrl, ⟨by rw [e504, hpl], hpl0, hpl4⟩, by omega, fun cA => ?_⟩, fun q => hk _ _ (hfail ?_), fun cA => ⟨fun q => hk _ _ (hfail ?_), fun cB x9 S2 hA S6 hT => ?_⟩⟩
  · obtain ⟨t, ht, -, er2, -⟩ := tier cA.2.1
    rw [er2, (R0_tier hR hi ht).2.1]
    refine ⟨hd.ne (by omega), ?_⟩
    by_cases y : cRf S (d 8 w) 1 = cRf S (d 7 t) 1
    · exact (hL.2 8 w 7 t hLw (Or.inr (Or.inl ⟨rfl, ht⟩)) y).elim Or.inl (fun z => by omega)
    · exact Or.inr y
  · exact hc0 (fun z => q (hcd.mp z.1).1)
  · refine hc0 ?_
    rintro ⟨z1, z2⟩
    refine q ⟨(hcd.mp z1).2, ?_⟩
    exact Bool.eq_false_iff.mpr (fun z => z2 ((hdg z1).mp z))
  · have hcc : mCcd M (nI w) (nI g) := hcd.mpr ⟨cA, cB.1⟩
    obtain ⟨t, ht, e27, er2, en, e19⟩ := tier cA.2.1
    have h28 : M.2 28 g = -1 := cA.2.1
    obtain ⟨-, u2, u3, -, -⟩ := R0_tier hR hi ht
    have hbh : rBh S r (d 2 g) 0 = nI (nT M t - 1 - p) := by
      unfold rBh
      rw [erP, rCt_0, en, show nT M t - (p + 1) = nT M t - 1 - p by omega]
    rw [en] at r4
    rw [er2, u2] at hA
    rw [hbh] at hT
    have ho' : oCouple M (nI w) (nI g) = (M.2 42 w + 1, mCpl (mAst (mSet M 0 0) 41 (12 * w + nW M w) (nI g)) (nI w) (nI g) t p (nT M t)) := by
      have hne : ¬ mCcr M (nI w) (nI g) = 0 := by
        rw [hc2 ⟨hcc, fun z => by
          have := (hdg hcc).mpr z
          rw [cB.2] at this
          cases this⟩]
        decide
      unfold oCouple
      rw [if_neg (not_not_intro y0), if_neg hne, hc1 hcc, ix_nI (show w < 1000 by omega)]
      have et : tOf M (nI g) = t := by unfold tOf; rw [ix_nI (show g < 1000 by omega), e27, ix_nI (by omega)]
      have ep : mPlc M (nI g) = p := r7
      rw [et, ep]
      rfl
    obtain ⟨hR5, hi5⟩ := R0_cpl (n := nW M w) (nt := nT M t) hd hR hi hw hg ht h28 e27 rfl r4 e19 rfl cB.1 hA
    have hLt : isL (mSet M 0 0) 7 t := Or.inr (Or.inl ⟨rfl, ht⟩)
    have ct : lCn S (d 7 t) = nT M t := (hR.2.2.2.2.2.2.2.2.2.2.2.1 t ht).2.1
    have cw : lCn S (d 8 w) = nW M w := (hR.2.2.2.2.2.2.2.2.2.2.2.2.1 w hw).2.1
    obtain ⟨ff, -⟩ := mv_lists hL hd hLt hLw (by omega) (by rw [ct]; exact r4) (by rw [cw]; omega) hA
    obtain ⟨hp2, hU2, hq2⟩ := hp.fr ff rfl (fun j _ => rfl) (fun j _ => rfl)
    obtain ⟨m, -, -, -, r28, -, -, c, -⟩ := mCpl_v (M := mSet M 0 0) (w := w) (g := g) (t := t) (p := p) (n := nW M w) (nt := nT M t) (show w < 6 by omega) (show g < 24 by omega) ht cB.1 w1
    generalize hM2 : mCpl (mAst (mSet M 0 0) 41 (12 * w + nW M w) (nI g)) (nI w) (nI g) t p (nT M t) = M2 at *
    have hch : chg S2 (cSetI (cSetI (cSetR S2 (d 2 g) 102 (some (d 5 w))) (d 4 w) 205 (cFi S (d 4 w) 205 + (2 + nI (nT M t - 1 - p)))) (d 9 0) 811 (cFi S (d 9 0) 811 + nI (nT M t - 1 - p) * 3)) (fun y => y = d 2 g ∨ y = d 4 w ∨ y = d 9 0) := ((chg.rf.sR (Or.inl rfl)).sI (Or.inr (Or.inl rfl))).sI (Or.inr (Or.inr rfl))
    have hX : ∀ (k i : Nat), ¬ (k = 2) → ¬ (k = 4) → ¬ (k = 9 ∧ i = 0) → ¬ (d k i = d 2 g ∨ d k i = d 4 w ∨ d k i = d 9 0) := fun k i a1 a2 a3 y => y.elim (fun y => a1 (hd _ _ _ _ y).1) (fun y => y.elim (fun y => a2 (hd _ _ _ _ y).1) (fun y => a3 (hd _ _ _ _ y)))
    obtain ⟨hp3, hU3, hq3⟩ := hp2.keep hch (hX 9 2 (by omega) (by omega) (by omega)) (fun i => hX 11 i (by omega) (by omega) (by omega)) (fun i => hX 12 i (by omega) (by omega) (by omega))
    have hnp := hp.2.1
    rw [← hU2 (np - 1) (by omega), ← hU3 (np - 1)] at hT
    have n22' : nBg M2 = nBg M := by unfold nBg; rw [c 22 (by omega)]; rfl
    have n29' : nBt M2 = nBt M := by unfold nBt; rw [c 29 (by omega)]; rfl
    obtain ⟨d2, np2, j1, j2, j3, j4, j5, j6, j7⟩ := R0_tell hd hR5 hi5 hp3 (show N < 8192 by omega) hT
    obtain ⟨z1, z2, z3⟩ := note_dec 1 (by omega) g (by omega) w (by omega)
    have z1 : cNote 1 (nI g) (nI w) >>> (16 &&& 31) = nI 1 := z1
    have hways : ways M2 (nBt M) = ways (mSet M 0 0) (nBt M) := ways_same _ (fun v _ => way_of (by rw [m 34 (by omega) (by omega) (by omega) (by omega) (by omega) (by omega)]) (by rw [m 37 (by omega) (by omega) (by omega) (by omega) (by omega) (by omega)]) (by rw [m 33 (by omega) (by omega) (by omega) (by omega) (by omega) (by omega)]) (by rw [m 35 (by omega) (by omega) (by omega) (by omega) (by omega) (by omega)]))
    have hE : RR W9 (B + 15) (d 9 0) S6 M2 := by
      refine ⟨d2, np2, N + 1, j1, j2 9 0 (us9 (by omega)), hi5, j4, j5, ⟨fun y hy => ?_, fun v hv => ?_⟩, by rw [n29', hways]; rw [n29] at hN; omega, hB15⟩
      · rw [n22'] at hy
        rw [j6, r28, m 27 (by omega) (by omega) (by omega) (by omega) (by omega) (by omega)]
        by_cases q : y = g
        · rw [if_pos ⟨Or.inr z1, by rw [q]; exact z2⟩, if_pos q, if_neg (nI_m1 (by omega)), q]
        · rw [if_neg (fun y2 => by
            have := y2.2
            have e : cNote 1 (nI g) (nI w) >>> (8 &&& 31) &&& 255 = nI g := z2
            rw [e, eq_nI (by omega) (by omega)] at this
            exact q this.symm), if_neg q, hq3, hq2]
          exact hl.1 y (by rw [n22]; exact hy)
      · rw [n29'] at hv
        rw [j6, if_neg (fun y2 => by
          have := y2.1
          rw [z1] at this
          rcases this with y | y <;> exact absurd y (by decide)), m 33 (by omega) (by omega) (by omega) (by omega) (by omega) (by omega), m 34 (by omega) (by omega) (by omega) (by omega) (by omega) (by omega), hq3, hq2]
        exact hl.2 v (by rw [n29]; exact hv)
    refine hk _ _ (ans_1 hE ho' (by rw [c 0 (by omega)]; exact mSet_eq) ?_)
    rw [w1, nI1]

