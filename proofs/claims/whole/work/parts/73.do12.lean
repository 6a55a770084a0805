/-! The class's answers are the reference's: boats. -/

theorem Q_boat {W9 : xWd} {B a : Nat} {S : cS} {M : mS} {w : Int32} {z : Int32} {p : Int32} {K : xRes → cS → Prop} (h : RR W9 B a S M) (hB15 : B + 15 ≤ 8000) (hk : ∀ r S2, ans [eB, eA, eS] W9 (B + 15) a (oBoat M w z p) r S2 → K r S2) : (spX7_boat W9).2 [.ref a, .int w, .int z, .int p] S K := by
  have h0 := RR_set0 (z := 0) h
  have h00 := h0
  obtain ⟨d, np, N, h0d⟩ := h00
  have h0e := h0d
  obtain ⟨hd, rfl, hi, hR, hp, hl, hN, hB⟩ := h0e
  have g0 := hR.2.2.2.2.2.2.2.2.1.1
  obtain ⟨g7, g8, g9, g10, g11, g12, g13⟩ := hR.2.2.2.2.2.2.2.2.1.2.2
  have e29 : M.1 29 = nI (nBt M) := hi.1.1.1
  have e22 : M.1 22 = nI (nBg M) := hi.1.2.1.1
  have e46 : M.1 46 = nI (nCo M) := hi.1.2.2.1
  have b29 : nBt M ≤ 6 := hi.1.1.2
  have b22 : nBg M ≤ 24 := hi.1.2.1.2
  have b46 : nCo M ≤ 12 := hi.1.2.2.2
  have n29 : nBt (mSet M 0 0) = nBt M := rfl
  have n22 : nBg (mSet M 0 0) = nBg M := rfl
  have n46 : nCo (mSet M 0 0) = nCo M := rfl
  obtain ⟨f1, f2, f3, f4, f5, f6⟩ := R0_boats hR
  rw [n29] at f4 f5 f6
  have h' := RR_up h (show B ≤ B + 15 by omega) hB15
  have a806 := hR.2.2.2.2.2.2.2.2.1.2.1.2.2.2.2.2.2
  have e806 : cRf S (d 9 0) 806 = d 9 2 := by unfold cRf; rw [a806]; rfl
  have e807 : cFi S (d 9 0) 807 = M.1 1 := g7
  have hL := rLst.dj hR.2.2.2.2.2.2.2.2.2.2
  have hst := rPg_L hp (show N < 8192 by omega)
  rw [spwX7_boat, f2, e806, f5, e807]
  refine ⟨g0, ⟨f1, f3⟩, hL.1 6 4 (Or.inl ⟨rfl, by omega⟩), a806, N, _, _, hst, fun q => hk _ _ (ans_e h' (z := 1) ?_ (by decide) rfl), fun v => ⟨fun q => hk _ _ (ans_e h' (z := 2) ?_ (by decide) rfl), fun v2 => ⟨fun q => hk _ _ (ans_e h' (z := 3) ?_ (by decide) rfl), fun v3 b hb q hq q2 hq2 q3 hq3 x2 S2 hA S4 hT => ?_⟩⟩⟩
  · unfold oBoat
    rw [if_pos (by rw [idx7]; exact q)]
  · unfold oBoat
    rw [if_neg (not_not_intro (by rw [idx7]; exact v)), if_pos q]
  · unfold oBoat
    rw [if_neg (not_not_intro (by rw [idx7]; exact v)), if_neg (not_not_intro v2), if_pos]
    rw [show (6 : Int32) = nI 6 from rfl, lt_nI (by omega) (by omega)] at q
    rw [e29, show (6 : Int32) = nI 6 from rfl, eq_nI (by omega) (by omega)]
    omega
  · have hn6 : nBt M < 6 := by
      rw [show (6 : Int32) = nI 6 from rfl, lt_nI (by omega) (by omega)] at v3
      exact v3
    have ho' : oBoat M w z p = (M.1 29 + 1 - 1, mBot (mSet M 0 0) w z p) := by
      unfold oBoat
      rw [if_neg (not_not_intro (by rw [idx7]; exact v)), if_neg (not_not_intro v2), if_neg (by
        rw [e29, show (6 : Int32) = nI 6 from rfl, eq_nI (by omega) (by omega)]
        omega)]
      rfl
    have hp8 : vp_in p 8 ∧ ∃ a, a < 8 ∧ p = nI a := by
      rw [show (8 : Int32) = nI 8 from rfl, idx (by omega)] at v
      obtain ⟨a, ha, rfl⟩ := v
      exact ⟨xin_nI ha (by omega), a, ha, rfl⟩
    obtain ⟨hpv, a, ha, ea⟩ := hp8
    obtain ⟨hR3, hi3, ff⟩ := R0_boa hd hR hi (n := nBt M) rfl hn6 hp.1.1 hpv hb hq hq2 hq3 hA
    obtain ⟨⟨-, -, -, -, -, -, dq, dq2, dq3⟩, -⟩ := boa_rd (W9 := W9) (p := p) (o := M.1 1) hb hq hq2 hq3
    have hlv : ∀ k i, ¬ cDead S (d k i) → ¬ ((k = 4 ∨ k = 10 ∨ k = 5 ∨ k = 8) ∧ i = nBt M) → (dSw (dSw (dSw (dSw d 4 (nBt M) b) 10 (nBt M) q) 5 (nBt M) q2) 8 (nBt M) q3) k i = d k i := fun k i hl hne => by
      have s1 : dSw d 4 (nBt M) b k i = d k i := dSw_ne (by omega) (live_ne hl hb)
      have s2 : dSw (dSw d 4 (nBt M) b) 10 (nBt M) q k i = d k i := (dSw_ne (by omega) (by rw [s1]; exact live_ne hl dq)).trans s1
      have s3 : dSw (dSw (dSw d 4 (nBt M) b) 10 (nBt M) q) 5 (nBt M) q2 k i = d k i := (dSw_ne (by omega) (by rw [s2]; exact live_ne hl dq2)).trans s2
      exact (dSw_ne (by omega) (by rw [s3]; exact live_ne hl dq3)).trans s3
    have e92 := hlv 9 2 (live_of hp.1.1 (by omega)) (by omega)
    have e90 := hlv 9 0 (R0_live hR (us9 (by omega))) (by omega)
    have e11 : ∀ j, j < np → (dSw (dSw (dSw (dSw d 4 (nBt M) b) 10 (nBt M) q) 5 (nBt M) q2) 8 (nBt M) q3) 11 j = d 11 j := fun j hj => hlv 11 j (live_of (hp.2.2 j hj).1 (by omega)) (by omega)
    have e12 : ∀ j, j < np → (dSw (dSw (dSw (dSw d 4 (nBt M) b) 10 (nBt M) q) 5 (nBt M) q2) 8 (nBt M) q3) 12 j = d 12 j := fun j hj => hlv 12 j (live_of (hp.2.2 j hj).2.2.1 (by omega)) (by omega)
    have hd3 : dInj (dSw (dSw (dSw (dSw d 4 (nBt M) b) 10 (nBt M) q) 5 (nBt M) q2) 8 (nBt M) q3) := dSw_inj (dSw_inj (dSw_inj (dSw_inj hd 4 (nBt M) b) 10 (nBt M) q) 5 (nBt M) q2) 8 (nBt M) q3
    obtain ⟨hp3, hU3, hq3'⟩ := hp.fr ff e92 e11 e12
    have hnp := hp.2.1
    rw [← e92, ← e11 (np - 1) (by omega), ← hU3 (np - 1) (by omega)] at hT
    obtain ⟨m, row⟩ := mBot_v (M := mSet M 0 0) (w := w) (h := z) (p := p) (n := nBt M) rfl
    generalize dSw (dSw (dSw (dSw d 4 (nBt M) b) 10 (nBt M) q) 5 (nBt M) q2) 8 (nBt M) q3 = e at *
    generalize hM2 : mBot (mSet M 0 0) w z p = M2 at *
    have n29' : nBt M2 = nBt M + 1 := by
      rw [← hM2]
      unfold nBt mBot
      rw [mSet_eq]
      show ((M.1 29 + 1).toNatClampNeg) = (M.1 29).toNatClampNeg + 1
      rw [e29, nI1, ix_nI (by omega), ix_nI (by omega)]
    have n22' : nBg M2 = nBg M := by rw [← hM2]; rfl
    rw [ea] at hT
    obtain ⟨d2, np2, j1, j2, j3, j4, j5, j6, j7⟩ := R0_tell hd3 hR3 hi3 hp3 (show N < 8192 by omega) hT
    obtain ⟨z1, z2, z3⟩ := note_dec 2 (by omega) (nBt M) (by omega) a ha
    have z1 : cNote 2 (nI (nBt M)) (nI a) >>> (16 &&& 31) = nI 2 := z1
    have z2 : cNote 2 (nI (nBt M)) (nI a) >>> (8 &&& 31) &&& 255 = nI (nBt M) := z2
    have hways : ways M2 (nBt M + 1) = ways (mSet M 0 0) (nBt M) := by
      show ways M2 (nBt M) + way M2 (nBt M) = _
      have w0 : way M2 (nBt M) = 0 := by
        unfold way
        rw [(row (nBt M)).2.2.2.1, (row (nBt M)).2.2.2.2.1, if_pos rfl, if_pos rfl, if_pos rfl, if_pos rfl]
      rw [w0, Nat.add_zero]
      refine ways_same _ (fun v hv => way_of ?_ ?_ ?_ (by rw [m 35 (by omega) (by omega) (by omega) (by omega) (by omega) (by omega) (by omega)]))
      · rw [(row v).2.2.2.1, if_neg (by omega)]
      · rw [(row v).2.2.2.2.1, if_neg (by omega)]
      · rw [(row v).2.2.1, if_neg (by omega)]
    have hE : RR W9 (B + 15) (d 9 0) S4 M2 := by
      refine ⟨d2, np2, N + 1, j1, (j2 9 0 (us9 (by omega))).trans e90, hi3, j4, j5, ⟨fun g hg => ?_, fun v hv => ?_⟩, by rw [n29', hways]; rw [n29] at hN; omega, hB15⟩
      · rw [n22'] at hg
        rw [j6, if_neg (fun y => by
          have := y.1
          rw [z1] at this
          rcases this with y | y <;> exact absurd y (by decide)), hq3', m 27 (by omega) (by omega) (by omega) (by omega) (by omega) (by omega) (by omega), m 28 (by omega) (by omega) (by omega) (by omega) (by omega) (by omega) (by omega)]
        exact hl.1 g (by rw [n22]; exact hg)
      · rw [n29'] at hv
        obtain ⟨-, -, a33, a34, -⟩ := row v
        rw [j6, a33, a34]
        by_cases y : v = nBt M
        · rw [if_pos ⟨Or.inl z1, by rw [y]; exact z2⟩, if_pos y, if_pos y, if_pos rfl, y, ea]
        · rw [if_neg (fun y2 => by
            have := y2.2
            rw [z2, eq_nI (by omega) (by omega)] at this
            exact y this.symm), if_neg y, if_neg y, hq3']
          exact hl.2 v (by rw [n29]; omega)
    refine hk _ _ (ans_1 hE ho' (by rw [← hM2]; rfl) ?_)
    rw [e29]
    exact (Int32.add_sub_cancel _ _).symm

