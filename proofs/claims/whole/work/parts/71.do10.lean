/-! The class's answers are the reference's: barges. -/

theorem Q_barge {W9 : xWd} {B a : Nat} {S : cS} {M : mS} {y : Int32} {p : Int32} {t : Int32} {K : xRes → cS → Prop} (h : RR W9 B a S M) (hB15 : B + 15 ≤ 8000) (hk : ∀ r S2, ans [eB, eA, eS] W9 (B + 15) a (oBarge M y p t) r S2 → K r S2) : (spX7_barge W9).2 [.ref a, .int y, .int p, .int t] S K := by
  have h0 := RR_set0 (z := 0) h
  have h00 := h0
  obtain ⟨d, np, N, h0d⟩ := h00
  have h0e := h0d
  obtain ⟨hd, rfl, hi, hR, hp, hl, hN, hB⟩ := h0e
  have g0 := hR.2.2.2.2.2.2.2.2.1.1
  obtain ⟨g7, g8, g9, g10, g11, g12, g13⟩ := hR.2.2.2.2.2.2.2.2.1.2.2
  have e29 : M.1 29 = nI (nBt M) := hi.1.1.1
  have e22 : M.1 22 = nI (nBg M) := hi.1.2.1.1
  have e46 : M.1 46 = nI (nCo M) := hi.1.2.2.1
  have b29 : nBt M ≤ 6 := hi.1.1.2
  have b22 : nBg M ≤ 24 := hi.1.2.1.2
  have b46 : nCo M ≤ 12 := hi.1.2.2.2
  have n29 : nBt (mSet M 0 0) = nBt M := rfl
  have n22 : nBg (mSet M 0 0) = nBg M := rfl
  have n46 : nCo (mSet M 0 0) = nCo M := rfl
  obtain ⟨f1, f2, f3, f4, f5, f6⟩ := R0_barges hR
  rw [n22] at f4 f5 f6
  obtain ⟨s1, s2, s3, s4, s5, s6⟩ := R0_tiers hR
  have s5 : cFi S (d 6 1) 2 = nI 16 := s5
  have h' := RR_up h (show B ≤ B + 15 by omega) hB15
  have a806 := hR.2.2.2.2.2.2.2.2.1.2.1.2.2.2.2.2.2
  have e806 : cRf S (d 9 0) 806 = d 9 2 := by unfold cRf; rw [a806]; rfl
  have hL := rLst.dj hR.2.2.2.2.2.2.2.2.2.2
  have hL62 : isL (mSet M 0 0) 6 2 := Or.inl ⟨rfl, by omega⟩
  have hst := rPg_L hp (show N < 8192 by omega)
  have eP : ((0 ≤ p ∧ p < 8) ∧ 0 ≤ t ∧ t < 2) = ((0 ≤ p ∧ p ≤ 7) ∧ 0 ≤ t ∧ t ≤ 1) := by rw [idx7]; congr 1; exact (le_m1 (k := t) (n := 2) (by omega)).symm
  have htr : ∀ j, j < lCn S (d 6 1) → cIn S (lG S (d 6 1) j) 505 1 ∧ lCap W9 S (rL S (lG S (d 6 1) j)) ∧ rN S (lG S (d 6 1) j) < 30 ∧ lKd S (rL S (lG S (d 6 1) j)) 2 ∧ ¬ rL S (lG S (d 6 1) j) = d 6 2 ∧ (cRf S (rL S (lG S (d 6 1) j)) 1 = wE W9 ∨ ¬ cRf S (rL S (lG S (d 6 1) j)) 1 = cRf S (d 6 2) 1) := fun j hj => by
    rw [s4] at hj
    rw [s6 j hj]
    obtain ⟨-, u2, u3, -, u5⟩ := R0_tier hR hi hj
    have h5 := iTie_n hi.2.2.1 hj
    have hLj : isL (mSet M 0 0) 7 j := Or.inr (Or.inl ⟨rfl, hj⟩)
    refine ⟨u5.2.1, by rw [u2]; exact hL.1 7 j hLj, by rw [u3]; omega, lAll_kd (c := 2) ⟨u5.2.2.1, u5.2.2.2⟩ (by unfold cEl; omega), by rw [u2]; exact hd.ne (by omega), ?_⟩
    rw [u2]
    by_cases w : cRf S (d 7 j) 1 = cRf S (d 6 2) 1
    · exact (hL.2 7 j 6 2 hLj hL62 w).elim Or.inl (fun z => by omega)
    · exact Or.inr w
  rw [spwX7_barge, f2, s2, e806, f5]
  refine ⟨g0, ⟨f1, f3⟩, hL.1 6 2 hL62, ⟨⟨s1, s3⟩, s5⟩, htr, a806, N, _, _, hst, fun q => hk _ _ (ans_e h' (z := 1) ?_ (by decide) rfl), fun v => ⟨fun q => hk _ _ (ans_e h' (z := 2) ?_ (by decide) rfl), fun v2 => ?_⟩⟩
  · unfold oBarge
    rw [if_pos (by rw [← eP]; exact q)]
  · unfold oBarge
    rw [if_neg (not_not_intro (by rw [← eP]; exact v)), if_pos q]
  · have y0 := v
    rw [eP] at y0
    obtain ⟨v1, v3⟩ := v
    rw [show (8 : Int32) = nI 8 from rfl, idx (by omega)] at v1
    rw [show (2 : Int32) = nI 2 from rfl, idx (by omega)] at v3
    obtain ⟨a, ha, rfl⟩ := v1
    obtain ⟨b, hb, rfl⟩ := v3
    have es : nI a * 2 + nI b = nI (2 * a + b) := by rw [Int32.mul_comm, m2_nI, add_nI]
    have es2 : 2 * nI a + nI b = nI (2 * a + b) := by rw [m2_nI, add_nI]
    obtain ⟨s, hs⟩ : ∃ s, 2 * a + b = s := ⟨_, rfl⟩
    have hs16 : s < 16 := by omega
    obtain ⟨-, t2, t3, -⟩ := R0_tier hR hi hs16
    have e503 : cFi S (d 1 s) 503 = M.2 17 s := (hR.2.1 s hs16).2.2.2.2.1
    have i18 : M.2 18 s = nI (nT M s) := (hi.2.2.1 s hs16).1
    have esz : cFi S (d 7 s) 2 = M.2 18 s := by
      rw [(hL.1 7 s (Or.inr (Or.inl ⟨rfl, hs16⟩))).2.1, ← t2]
      show nI (rN S (d 1 s)) = _
      rw [t3]
      exact i18.symm
    rw [es, hs, ix_nI (show s < 1000 by omega), s6 s hs16, t2, esz, e503]
    have e24 : (nI (nBg M) < 24) = ¬ (M.1 22 = 24) := by
      rw [e22, show (24 : Int32) = nI 24 from rfl, lt_nI (by omega) (by omega), eq_nI (by omega) (by omega)]
      exact propext ⟨fun z => by omega, fun z => by omega⟩
    have ho' : oBarge M y (nI a) (nI b) = if M.1 22 = 24 ∨ ¬ M.2 18 s < M.2 17 s then (0, mSet M 0 3) else (M.1 22 + 1 - 1, mBrg (mSet M 0 0) y s) := by
      unfold oBarge
      rw [if_neg (not_not_intro y0), if_neg (not_not_intro v2), es2, hs, ix_nI (show s < 1000 by omega)]
      have e22' : nI (nBg (mSet M 0 0)) = M.1 22 := e22.symm
      unfold mBrg
      rw [e22']
      rfl
    refine ⟨fun q => hk _ _ (ans_e h' (z := 3) ?_ (by decide) rfl), fun v4 q hq x2 S2 hA x3 S3 hA3 S4 hT => ?_⟩
    · rw [ho', if_pos]
      rw [e24] at q
      by_cases w : M.1 22 = 24
      · exact Or.inl w
      · exact Or.inr (fun w2 => q ⟨w, w2⟩)
    · rw [if_neg (fun w => w.elim (fun w => by rw [e24] at v4; exact v4.1 w) (fun w => w v4.2))] at ho'
      have hn24 : nBg (mSet M 0 0) < 24 := by
        have := v4.1
        rw [show (24 : Int32) = nI 24 from rfl, lt_nI (by omega) (by omega)] at this
        exact this
      obtain ⟨hR3, hi3, ff⟩ := R0_bar hd hR hi hn24 hp.1.1 hq v2 hs16 v4.2 hA hA3
      have hlv : ∀ k2 i2, ¬ cDead S (d k2 i2) → ¬ (k2 = 2 ∧ i2 = nBg (mSet M 0 0)) → dSw d 2 (nBg (mSet M 0 0)) q k2 i2 = d k2 i2 := fun k2 i2 a b => dSw_ne b (live_ne a hq)
      have e92 := hlv 9 2 (live_of hp.1.1 (by omega)) (by omega)
      have e90 := hlv 9 0 (R0_live hR (us9 (by omega))) (by omega)
      have e11 : ∀ j, j < np → dSw d 2 (nBg (mSet M 0 0)) q 11 j = d 11 j := fun j hj => hlv 11 j (live_of (hp.2.2 j hj).1 (by omega)) (by omega)
      have e12 : ∀ j, j < np → dSw d 2 (nBg (mSet M 0 0)) q 12 j = d 12 j := fun j hj => hlv 12 j (live_of (hp.2.2 j hj).2.2.1 (by omega)) (by omega)
      have hd3 := dSw_inj hd 2 (nBg (mSet M 0 0)) q
      obtain ⟨hp3, hU3, hq3⟩ := hp.fr ff e92 e11 e12
      have hnp := hp.2.1
      rw [← e92, ← e11 (np - 1) (by omega), ← hU3 (np - 1) (by omega)] at hT
      obtain ⟨m, row, -, -⟩ := mBrg_v (M := mSet M 0 0) (y := y) rfl (show nBg (mSet M 0 0) < 1000 by omega) hs16 (show (mSet M 0 0).2 18 s = nI (nT M s) from i18) (by
        have := iTie_n hi.2.2.1 hs16
        obtain ⟨-, ⟨c1, c2⟩, -⟩ := hi.2.2.1 s hs16
        have z1 := Int32.lt_iff_toInt_lt.mp v4.2
        have z2 := Int32.le_iff_toInt_le.mp c2
        have w5 : nT M s ≤ 5 := this
        rw [i18, nI_toInt (by omega)] at z1
        have e5 : (5 : Int32).toInt = 5 := by decide
        rw [e5] at z2
        have z3 : (nT M s : Int) < (M.2 17 s).toInt := z1
        have z4 : (M.2 17 s).toInt ≤ 5 := z2
        omega)
      generalize dSw d 2 (nBg (mSet M 0 0)) q = e at *
      generalize hM2 : mBrg (mSet M 0 0) y s = M2 at *
      have n22' : nBg M2 = nBg M + 1 := by
        rw [← hM2]
        unfold nBg mBrg
        rw [mSet_eq]
        show ((M.1 22 + 1).toNatClampNeg) = (M.1 22).toNatClampNeg + 1
        rw [e22, nI1, ix_nI (by omega), ix_nI (by omega)]
      have n29' : nBt M2 = nBt M := by rw [← hM2]; rfl
      obtain ⟨d2, np2, j1, j2, j3, j4, j5, j6, j7⟩ := R0_tell hd3 hR3 hi3 hp3 (show N < 8192 by omega) hT
      have hways : ways M2 (nBt M) = ways (mSet M 0 0) (nBt M) := ways_same _ (fun v _ => way_of (by rw [m 34 (by omega) (by omega) (by omega) (by omega) (by omega) (by omega) (by omega) (by omega)]) (by rw [m 37 (by omega) (by omega) (by omega) (by omega) (by omega) (by omega) (by omega) (by omega)]) (by rw [m 33 (by omega) (by omega) (by omega) (by omega) (by omega) (by omega) (by omega) (by omega)]) (by rw [m 35 (by omega) (by omega) (by omega) (by omega) (by omega) (by omega) (by omega) (by omega)]))
      have hE : RR W9 (B + 15) (d 9 0) S4 M2 := by
        refine ⟨d2, np2, N + 1, j1, (j2 9 0 (us9 (by omega))).trans e90, hi3, j4, j5, ⟨fun g hg => ?_, fun w hw => ?_⟩, by rw [n29', hways]; rw [n29] at hN; omega, hB15⟩
        · rw [n22'] at hg
          obtain ⟨z1, z2, z3⟩ := note_dec 0 (by omega) (nBg M) (by omega) a (by omega)
          obtain ⟨-, -, -, -, a27, a28⟩ := row g
          have a27 : M2.2 27 g = if g = nBg M then nI s else M.2 27 g := a27
          have a28 : M2.2 28 g = if g = nBg M then -1 else M.2 28 g := a28
          rw [j6, a27, a28]
          by_cases w : g = nBg M
          · rw [if_pos ⟨Or.inl z1, by rw [w]; exact z2⟩, if_pos w, if_pos w, if_pos rfl, w, nI_half hs16, show s / 2 = a by omega]
          · rw [if_neg (fun z => by
              have := z.2
              have e : cNote 0 (nI (nBg M)) (nI a) >>> (8 &&& 31) &&& 255 = nI (nBg M) := z2
              rw [e, eq_nI (by omega) (by omega)] at this
              exact w this.symm), if_neg w, if_neg w, hq3]
            exact hl.1 g (by rw [n22]; omega)
        · rw [n29'] at hw
          obtain ⟨z1, z2, z3⟩ := note_dec 0 (by omega) (nBg M) (by omega) a (by omega)
          rw [j6, if_neg (fun z => by
            have := z.1
            have e : cNote 0 (nI (nBg M)) (nI a) >>> (16 &&& 31) = nI 0 := z1
            rw [e] at this
            rcases this with y | y <;> exact absurd y (by decide)), hq3, m 33 (by omega) (by omega) (by omega) (by omega) (by omega) (by omega) (by omega) (by omega), m 34 (by omega) (by omega) (by omega) (by omega) (by omega) (by omega) (by omega) (by omega)]
          exact hl.2 w hw
      refine hk _ _ (ans_1 hE ho' (by rw [← hM2]; rfl) ?_)
      rw [e22]
      exact (Int32.add_sub_cancel _ _).symm

