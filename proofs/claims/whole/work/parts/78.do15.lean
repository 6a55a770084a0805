/-! The class's answers are the reference's: to drop. -/
theorem mDrp_v {M : mS} {w g s p n j : Nat} {v : Int32} (hw : w < 6) (hg : g < 24) (hs : s < 16) (hn : n ≤ 12) (hp : p < n) (h18 : M.2 18 s = nI j) (hj : j < 5) : (∀ k, k ≠ 41 → k ≠ 18 → k ≠ 19 → k ≠ 28 → k ≠ 42 → k ≠ 39 → k ≠ 27 → (mTies (mLv (mAst M 39 w v) w p n) (nI g) (nI s)).2 k = M.2 k) ∧ (∀ i, (mTies (mLv (mAst M 39 w v) w p n) (nI g) (nI s)).2 41 i = if 12 * w + p ≤ i ∧ i < 12 * w + p + (n - 1 - p) then M.2 41 (i + 1) else M.2 41 i) ∧ (∀ i, (mTies (mLv (mAst M 39 w v) w p n) (nI g) (nI s)).2 18 i = if i = s then nI (j + 1) else M.2 18 i) ∧ (∀ i, (mTies (mLv (mAst M 39 w v) w p n) (nI g) (nI s)).2 19 i = if i = 5 * s + j then nI g else M.2 19 i) ∧ (∀ i, (mTies (mLv (mAst M 39 w v) w p n) (nI g) (nI s)).2 28 i = if i = g then -1 else M.2 28 i) ∧ (∀ i, (mTies (mLv (mAst M 39 w v) w p n) (nI g) (nI s)).2 27 i = if i = g then nI s else M.2 27 i) ∧ (∀ i, (mTies (mLv (mAst M 39 w v) w p n) (nI g) (nI s)).2 42 i = if i = w then nI (n - 1) else M.2 42 i) ∧ (∀ i, (mTies (mLv (mAst M 39 w v) w p n) (nI g) (nI s)).2 39 i = if i = w then v else M.2 39 i) ∧ (mTies (mLv (mAst M 39 w v) w p n) (nI g) (nI s)).1 = M.1 := by
  have sh : ∀ (A : mS) (a lo k b i : Nat), b ≠ a → (mShL A a lo k).2 b i = A.2 b i := fun A a lo k b i hne => by rw [mShL_2, if_neg (fun z => hne z.1)]
  unfold mTies mLv
  rw [ix_nI (show g < 1000 by omega), ix_nI (show s < 1000 by omega)]
  have e18 : ∀ x, (mAst (mAst (mShL (mAst (mAst M 39 w v) 42 w (nI (n - 1))) 41 (12 * w + p) (n - 1 - p)) 27 g (nI s)) 28 g x).2 18 s = nI j := fun x => by
    rw [mAst_ne (by omega), mAst_ne (by omega), sh _ _ _ _ _ _ (by omega), mAst_ne (by omega), mAst_ne (by omega), h18]
  have e18b : (mShL (mAst (mAst M 39 w v) 42 w (nI (n - 1))) 41 (12 * w + p) (n - 1 - p)).2 18 s = nI j := by
    rw [sh _ _ _ _ _ _ (by omega), mAst_ne (by omega), mAst_ne (by omega), h18]
  rw [e18b, m5_nI, add_nI, ix_nI (show 5 * s + j < 1000 by omega), nI1]
  refine ⟨fun k a b c d e f g2 => ?_, fun i => ?_, fun i => ?_, fun i => ?_, fun i => ?_, fun i => ?_, fun i => ?_, fun i => ?_, ?_⟩
  · rw [mAst_ne b, mAst_ne c, mAst_ne d, mAst_ne g2]
    funext i
    rw [sh _ _ _ _ _ _ a, mAst_ne e, mAst_ne f]
  · rw [mAst_ne (by omega), mAst_ne (by omega), mAst_ne (by omega), mAst_ne (by omega), mShL_2, mAst_ne (by omega), mAst_ne (by omega)]
    by_cases z : 12 * w + p ≤ i ∧ i < 12 * w + p + (n - 1 - p)
    · rw [if_pos z, if_pos ⟨rfl, z⟩]
    · rw [if_neg z, if_neg (fun y => z y.2)]
  · rw [mAst_eq, mAst_ne (by omega), mAst_ne (by omega), mAst_ne (by omega), sh _ _ _ _ _ _ (by omega), mAst_ne (by omega), mAst_ne (by omega)]
  · rw [mAst_ne (by omega), mAst_eq, mAst_ne (by omega), mAst_ne (by omega), sh _ _ _ _ _ _ (by omega), mAst_ne (by omega), mAst_ne (by omega)]
  · rw [mAst_ne (by omega), mAst_ne (by omega), mAst_eq, mAst_ne (by omega), sh _ _ _ _ _ _ (by omega), mAst_ne (by omega), mAst_ne (by omega)]
  · rw [mAst_ne (by omega), mAst_ne (by omega), mAst_ne (by omega), mAst_eq, sh _ _ _ _ _ _ (by omega), mAst_ne (by omega), mAst_ne (by omega)]
  · rw [mAst_ne (by omega), mAst_ne (by omega), mAst_ne (by omega), mAst_ne (by omega), sh _ _ _ _ _ _ (by omega), mAst_eq, mAst_ne (by omega)]
  · rw [mAst_ne (by omega), mAst_ne (by omega), mAst_ne (by omega), mAst_ne (by omega), sh _ _ _ _ _ _ (by omega), mAst_ne (by omega), mAst_eq]
  · show (mShL _ _ _ _).1 = _
    rw [mShL_1]
    rfl

theorem R0_drp {W9 : xWd} {d : Nat → Nat → Nat} {S S2 : cS} {M : mS} {w g s p n j : Nat} {x v1 : Int32} (hd : dInj d) (hR : R0 W9 d S M) (hi : iAll M) (hw : w < nBt M) (hg : g < nBg M) (hs16 : s < 16) (h28 : M.2 28 g = nI w) (hn : nW M w = n) (hp : p < n) (h41 : M.2 41 (12 * w + p) = nI g) (hj : nT M s = j) (hroom : M.2 18 s < M.2 17 s) (hA : lAdd W9 (cSetI (lRem (cSetI S (d 4 w) 205 v1) (d 8 w) p) (d 7 s) 0 x) (d 7 s) (d 2 g) S2) (hv1 : v1 = M.2 39 w + nI (n - p)) : R0 W9 d (cSetR S2 (d 2 g) 102 (some (d 1 s))) (mTies (mLv (mAst M 39 w v1) w p n) (nI g) (nI s)) ∧ iAll (mTies (mLv (mAst M 39 w v1) w p n) (nI g) (nI s)) ∧ fr1 (cSetI S (d 4 w) 205 v1) S2 := by
  have hb29 := hi.1.1.2
  have hb22 := hi.1.2.1.2
  have hb46 := hi.1.2.2.2
  have hL0 := rLst.dj hR.2.2.2.2.2.2.2.2.2.2
  have hch0 : chg S (cSetI S (d 4 w) 205 v1) (fun b => b = d 4 w) := chg.sI (X := fun b => b = d 4 w) (chg.rf (X := fun b => b = d 4 w)) rfl
  have hl0 : ∀ k i, isL M k i → lCap W9 (cSetI S (d 4 w) 205 v1) (d k i) ∧ lSame S (cSetI S (d 4 w) 205 v1) (d k i) := fun k i z => hch0.lst (fun y => by
    have := (hd _ _ _ _ y).1
    rcases z with ⟨y, _⟩ | ⟨y, _⟩ | ⟨y, _⟩ <;> omega) (hL0.1 k i z)
  have hL : lDj W9 d (cSetI S (d 4 w) 205 v1) M := ⟨fun k i z => (hl0 k i z).1, fun k i k2 i2 z1 z2 z3 => by
    rw [(hl0 k i z1).2.rd.2.1] at z3 ⊢
    rw [(hl0 k2 i2 z2).2.rd.2.1] at z3
    exact hL0.2 k i k2 i2 z1 z2 z3⟩
  have hLs : isL M 7 s := Or.inr (Or.inl ⟨rfl, hs16⟩)
  have hLw : isL M 8 w := Or.inr (Or.inr ⟨rfl, hw⟩)
  obtain ⟨⟨l0, l1, l2, l3, l4⟩, l5, l6, l7⟩ := hR.2.2.2.2.2.2.2.2.2.2
  have cs : lCn (cSetI S (d 4 w) 205 v1) (d 7 s) = j := by rw [(hl0 7 s hLs).2.rd.1, (l5 s hs16).2.1, hj]
  have cw : lCn (cSetI S (d 4 w) 205 v1) (d 8 w) = n := by rw [(hl0 8 w hLw).2.rd.1, (l6 w hw).2.1, hn]
  have i18 : M.2 18 s = nI j := by rw [(hi.2.2.1 s hs16).1, hj]
  have hj5 : j < 5 := by
    have h5 := iTie_n hi.2.2.1 hs16
    obtain ⟨-, ⟨a1, a2⟩, -⟩ := hi.2.2.1 s hs16
    have z1 := Int32.lt_iff_toInt_lt.mp hroom
    have z2 := Int32.le_iff_toInt_le.mp a2
    rw [i18, nI_toInt (by omega)] at z1
    have e5 : (5 : Int32).toInt = 5 := by decide
    rw [e5] at z2
    omega
  have hn12 : n ≤ 12 := by rw [← hn]; exact (hi.2.2.2.1 w hw).1.2
  obtain ⟨ff, hdj, hs0, ⟨rc, ra, rb⟩, ⟨ac, aa, ab⟩⟩ := mv_lists hL hd hLw hLs (by omega) (by rw [cw]; exact hp) (by rw [cs]; omega) hA
  rw [cw] at rc rb
  rw [cs] at ac aa ab
  obtain ⟨m, r41, r18, r19, r28, r27, r42, r39, c0⟩ := mDrp_v (M := M) (v := v1) (show w < 6 by omega) (show g < 24 by omega) hs16 hn12 hp i18 hj5
  generalize hM2 : mTies (mLv (mAst M 39 w v1) w p n) (nI g) (nI s) = M2 at *
  have c : ∀ k, M2.1 k = M.1 k := fun k => congrFun c0 k
  have n22 : nBg M2 = nBg M := by unfold nBg; rw [c 22]
  have n29 : nBt M2 = nBt M := by unfold nBt; rw [c 29]
  have n46 : nCo M2 = nCo M := by unfold nCo; rw [c 46]
  have nT2 : ∀ t', nT M2 t' = if t' = s then j + 1 else nT M t' := fun t' => by
    unfold nT
    rw [r18]
    by_cases z : t' = s
    · rw [if_pos z, if_pos z, ix_nI (by omega)]
    · rw [if_neg z, if_neg z]
  have nW2 : ∀ v, nW M2 v = if v = w then n - 1 else nW M v := fun v => by
    unfold nW
    rw [r42]
    by_cases z : v = w
    · rw [if_pos z, if_pos z, ix_nI (by omega)]
    · rw [if_neg z, if_neg z]
  have hz28 : ¬ M.2 28 g = -1 := by rw [h28]; exact nI_m1 (by omega)
  have lv0 : ∀ k i, us M k i → ¬ cDead (cSetI S (d 4 w) 205 v1) (d k i) := fun k i z => R0_live hR z
  generalize hS5 : cSetR S2 (d 2 g) 102 (some (d 1 s)) = S5
  have hsm : ∀ k i, us M k i → ¬ (k = 2 ∧ i = g) → ¬ (k = 4 ∧ i = w) → sm S S5 (d k i) := fun k i z y1 y2 => by
    rw [← hS5]
    exact ((hch0.sm (fun y => y2 (hd _ _ _ _ y))).trans (ff.sm (lv0 k i z))).sR (fun y => y1 (hd _ _ _ _ y))
  have hK5 : ∀ k i, us M k i → cK S5 (d k i) = cK S (d k i) := fun k i z => by rw [← hS5]; exact ff.1 _ (lv0 k i z)
  have hF5 : ∀ k i f, us M k i → 2 < f → ¬ (k = 4 ∧ f = 205) → cFi S5 (d k i) f = cFi S (d k i) f := fun k i f z hf y1 => by
    rw [← hS5, cFi_setR, ff.2.1 _ f hf (lv0 k i z), cFi_setI, if_neg (fun y => y1 ⟨(hd _ _ _ _ y.1).1, y.2⟩)]
  have hR5 : ∀ k i f, us M k i → 2 < f → ¬ (k = 2 ∧ i = g ∧ f = 102) → cFr S5 (d k i) f = cFr S (d k i) f := fun k i f z hf y1 => by
    rw [← hS5, cFr_setR, if_neg (fun y => y1 ⟨(hd _ _ _ _ y.1).1, (hd _ _ _ _ y.1).2, y.2⟩)]
    exact ff.2.2.1 _ f hf (lv0 k i z)
  have hs5 : ∀ L, lSame S2 S5 L := fun L => by rw [← hS5]; exact same_sR (Or.inl (by omega))
  have hsl : ∀ k i, isL M k i → ¬ (k = 8 ∧ i = w) → ¬ (k = 7 ∧ i = s) → lSame S S5 (d k i) := fun k i z y1 y2 => ((hl0 k i z).2.trans (hs0 k i z y1 y2)).trans (hs5 _)
  have hcap5 : ∀ L, lCap W9 S2 L → lCap W9 S5 L := fun L ⟨c1, c2, c3, c4, c5⟩ => by
    obtain ⟨e1, e2, e3⟩ := (hs5 L).rd
    have ek : ∀ a, cK S5 a = cK S2 a := fun a => by rw [← hS5]; rfl
    have el : ∀ a, cLen S5 a = cLen S2 a := fun a => by rw [← hS5]; rfl
    refine ⟨by rw [ek]; exact c1, by rw [(hs5 L).1, e1]; exact c2, by rw [e1]; exact c3, by rw [(hs5 L).2.1, e2]; exact c4, ?_⟩
    rw [e1, e2, ek, el]
    exact c5
  have key : ∀ k i n f, isL M k i → ¬ (k = 8 ∧ i = w) → ¬ (k = 7 ∧ i = s) → lst W9 S (d k i) n f → lst W9 S5 (d k i) n f := fun k i n f z y1 y2 hl => by
    have hh := hsl k i z y1 y2
    exact ⟨hcap5 _ (hdj.1 k i z), hh.rd.1.trans hl.2.1, fun j hj => (hh.rd.2.2 j).trans (hl.2.2 j hj)⟩
  have huq : ∀ i, i < n → M.2 41 (12 * w + i) = nI g → i = p := fun i hi2 he => by
    rcases (hi.2.2.2.2.1 g hg).1 with ⟨z, -⟩ | ⟨v, p2, hv, e2, hp2, ep2, hu⟩
    · exact absurd z hz28
    · rw [h28, eq_nI (by omega) (by omega)] at e2
      subst e2
      rw [hn] at hp2 hu
      rw [hu i hi2 he, hu p hp h41]
  refine ⟨⟨?_, ?_, ?_, ?_, ?_, ?_, ?_, ?_, ?_, ?_, ?_⟩, ⟨?_, ?_, ?_, ?_, ?_, ?_, ?_, ?_, ?_, ?_⟩, ff⟩
  · exact hR.1.mono (fun z w => hsm _ _ (us0 w) (by omega) (by omega)) (m 5 (by omega) (by omega) (by omega) (by omega) (by omega) (by omega) (by omega)) (m 6 (by omega) (by omega) (by omega) (by omega) (by omega) (by omega) (by omega)) (m 7 (by omega) (by omega) (by omega) (by omega) (by omega) (by omega) (by omega)) (m 8 (by omega) (by omega) (by omega) (by omega) (by omega) (by omega) (by omega)) (m 9 (by omega) (by omega) (by omega) (by omega) (by omega) (by omega) (by omega)) (m 10 (by omega) (by omega) (by omega) (by omega) (by omega) (by omega) (by omega)) (m 11 (by omega) (by omega) (by omega) (by omega) (by omega) (by omega) (by omega)) (m 12 (by omega) (by omega) (by omega) (by omega) (by omega) (by omega) (by omega)) (m 13 (by omega) (by omega) (by omega) (by omega) (by omega) (by omega) (by omega)) (m 14 (by omega) (by omega) (by omega) (by omega) (by omega) (by omega) (by omega)) (m 15 (by omega) (by omega) (by omega) (by omega) (by omega) (by omega) (by omega)) (m 16 (by omega) (by omega) (by omega) (by omega) (by omega) (by omega) (by omega)) 
  · exact hR.2.1.mono (fun z w => hsm _ _ (us1 w) (by omega) (by omega)) (m 17 (by omega) (by omega) (by omega) (by omega) (by omega) (by omega) (by omega)) 
  · exact hR.2.2.1.mono (fun z w => hsm _ _ (us5 w) (by omega) (by omega)) (m 40 (by omega) (by omega) (by omega) (by omega) (by omega) (by omega) (by omega)) (c 29)
  · intro y hy
    rw [n22] at hy
    obtain ⟨h0, h100, h101, h102, h103, h104, h105⟩ := hR.2.2.2.1 y hy
    have z := us2 hy
    rw [m 23 (by omega) (by omega) (by omega) (by omega) (by omega) (by omega) (by omega), m 24 (by omega) (by omega) (by omega) (by omega) (by omega) (by omega) (by omega), m 25 (by omega) (by omega) (by omega) (by omega) (by omega) (by omega) (by omega), m 26 (by omega) (by omega) (by omega) (by omega) (by omega) (by omega) (by omega), r27, r28, hK5 2 y z, hF5 2 y 100 z (by omega) (by omega), hF5 2 y 101 z (by omega) (by omega), hF5 2 y 103 z (by omega) (by omega), hF5 2 y 105 z (by omega) (by omega), hR5 2 y 104 z (by omega) (by omega)]
    refine ⟨h0, h100, h101, ?_, h103, h104, h105⟩
    by_cases q : y = g
    · rw [if_pos q, if_pos rfl, if_pos q, ix_nI (by omega), q, ← hS5, cFr_setR, if_pos ⟨rfl, rfl⟩]
    · rw [if_neg q, if_neg q, hR5 2 y 102 z (by omega) (by omega)]
      exact h102
  · exact hR.2.2.2.2.1.mono (fun z w => hsm _ _ (us3 w) (by omega) (by omega)) (m 47 (by omega) (by omega) (by omega) (by omega) (by omega) (by omega) (by omega)) (m 48 (by omega) (by omega) (by omega) (by omega) (by omega) (by omega) (by omega)) (m 49 (by omega) (by omega) (by omega) (by omega) (by omega) (by omega) (by omega)) (m 50 (by omega) (by omega) (by omega) (by omega) (by omega) (by omega) (by omega)) (m 51 (by omega) (by omega) (by omega) (by omega) (by omega) (by omega) (by omega)) (m 52 (by omega) (by omega) (by omega) (by omega) (by omega) (by omega) (by omega)) (m 53 (by omega) (by omega) (by omega) (by omega) (by omega) (by omega) (by omega)) (m 54 (by omega) (by omega) (by omega) (by omega) (by omega) (by omega) (by omega)) (m 55 (by omega) (by omega) (by omega) (by omega) (by omega) (by omega) (by omega)) (m 24 (by omega) (by omega) (by omega) (by omega) (by omega) (by omega) (by omega)) (m 25 (by omega) (by omega) (by omega) (by omega) (by omega) (by omega) (by omega)) (c 46) (c 22)
  · intro v hv
    rw [n29] at hv
    by_cases q : v = w
    · subst q
      obtain ⟨h0, h200, h201, h202, h203, h204, h205, h206, h207, h208, h209, h210, h211, h213, h214⟩ := hR.2.2.2.2.2.1 v hv
      have z := us4 hv
      rw [m 30 (by omega) (by omega) (by omega) (by omega) (by omega) (by omega) (by omega), m 31 (by omega) (by omega) (by omega) (by omega) (by omega) (by omega) (by omega), m 32 (by omega) (by omega) (by omega) (by omega) (by omega) (by omega) (by omega), m 33 (by omega) (by omega) (by omega) (by omega) (by omega) (by omega) (by omega), m 34 (by omega) (by omega) (by omega) (by omega) (by omega) (by omega) (by omega), m 35 (by omega) (by omega) (by omega) (by omega) (by omega) (by omega) (by omega), m 36 (by omega) (by omega) (by omega) (by omega) (by omega) (by omega) (by omega), m 37 (by omega) (by omega) (by omega) (by omega) (by omega) (by omega) (by omega), m 38 (by omega) (by omega) (by omega) (by omega) (by omega) (by omega) (by omega), m 43 (by omega) (by omega) (by omega) (by omega) (by omega) (by omega) (by omega), r39, if_pos rfl, hK5 4 v z, hR5 4 v 203 z (by omega) (by omega), hR5 4 v 214 z (by omega) (by omega), hF5 4 v 200 z (by omega) (by omega), hF5 4 v 201 z (by omega) (by omega), hF5 4 v 202 z (by omega) (by omega), hF5 4 v 204 z (by omega) (by omega), hF5 4 v 206 z (by omega) (by omega), hF5 4 v 207 z (by omega) (by omega), hF5 4 v 208 z (by omega) (by omega), hF5 4 v 209 z (by omega) (by omega), hF5 4 v 210 z (by omega) (by omega), hF5 4 v 211 z (by omega) (by omega), hF5 4 v 213 z (by omega) (by omega)]
      refine ⟨h0, h200, h201, h202, h203, h204, ?_, h206, h207, h208, h209, h210, h211, h213, h214⟩
      rw [← hS5, cFi_setR, ff.2.1 _ 205 (by omega) (lv0 4 v z), cFi_setI, if_pos ⟨rfl, rfl⟩]
    · exact rowB.mono (hR.2.2.2.2.2.1 v hv) (hsm 4 v (us4 hv) (by omega) (by omega)) (by rw [m 30 (by omega) (by omega) (by omega) (by omega) (by omega) (by omega) (by omega)]) (by rw [m 31 (by omega) (by omega) (by omega) (by omega) (by omega) (by omega) (by omega)]) (by rw [m 32 (by omega) (by omega) (by omega) (by omega) (by omega) (by omega) (by omega)]) (by rw [m 33 (by omega) (by omega) (by omega) (by omega) (by omega) (by omega) (by omega)]) (by rw [m 34 (by omega) (by omega) (by omega) (by omega) (by omega) (by omega) (by omega)]) (by rw [m 35 (by omega) (by omega) (by omega) (by omega) (by omega) (by omega) (by omega)]) (by rw [m 36 (by omega) (by omega) (by omega) (by omega) (by omega) (by omega) (by omega)]) (by rw [m 37 (by omega) (by omega) (by omega) (by omega) (by omega) (by omega) (by omega)]) (by rw [m 38 (by omega) (by omega) (by omega) (by omega) (by omega) (by omega) (by omega)]) (by rw [r39, if_neg q]) (by rw [m 43 (by omega) (by omega) (by omega) (by omega) (by omega) (by omega) (by omega)])
  · intro v hv u hu6
    rw [n29] at hv
    rw [m 45 (by omega) (by omega) (by omega) (by omega) (by omega) (by omega) (by omega), hF5 4 v 212 (us4 hv) (by omega) (by omega)]
    exact hR.2.2.2.2.2.2.1 v hv u hu6
  · exact hR.2.2.2.2.2.2.2.1.mono (fun z w => hsm _ _ (us10 w) (by omega) (by omega)) (m 44 (by omega) (by omega) (by omega) (by omega) (by omega) (by omega) (by omega)) (c 29)
  · exact hR.2.2.2.2.2.2.2.2.1.mono (hsm 9 0 (us9 (by omega)) (by omega) (by omega))  (c 1) (c 2) (c 3) (c 4) (c 56) (c 57) (c 58)
  · exact hR.2.2.2.2.2.2.2.2.2.1.mono (hsm 9 1 (us9 (by omega)) (by omega) (by omega)) (m 20 (by omega) (by omega) (by omega) (by omega) (by omega) (by omega) (by omega)) (m 21 (by omega) (by omega) (by omega) (by omega) (by omega) (by omega) (by omega)) (c 1)
  · refine ⟨⟨?_, ?_, ?_, ?_, ?_⟩, fun x2 hx2 => ?_, fun v hv => ?_, fun k1 i1 k2 i2 z1 z2 z3 => ?_⟩
    · exact key 6 0 _ _ (Or.inl ⟨rfl, by omega⟩) (by omega) (by omega) l0
    · exact key 6 1 _ _ (Or.inl ⟨rfl, by omega⟩) (by omega) (by omega) l1
    · rw [n22]; exact key 6 2 _ _ (Or.inl ⟨rfl, by omega⟩) (by omega) (by omega) l2
    · rw [n46]; exact key 6 3 _ _ (Or.inl ⟨rfl, by omega⟩) (by omega) (by omega) l3
    · rw [n29]; exact key 6 4 _ _ (Or.inl ⟨rfl, by omega⟩) (by omega) (by omega) l4
    · rw [nT2]
      have h5 := iTie_n hi.2.2.1 hx2
      by_cases q : x2 = s
      · subst q
        rw [if_pos rfl]
        refine ⟨hcap5 _ (hdj.1 7 x2 hLs), (hs5 _).rd.1.trans ac, fun i hi2 => ?_⟩
        rw [(hs5 _).rd.2.2]
        show lNth S2 (d 7 x2) i = some (d 2 (M2.2 19 (5 * x2 + i)).toNatClampNeg)
        rw [r19]
        by_cases y : i = j
        · rw [if_pos (by omega), y, ab, ix_nI (by omega)]
        · rw [if_neg (by omega), aa i (by omega), (hl0 7 x2 hLs).2.rd.2.2]
          exact (l5 x2 hs16).2.2 i (by rw [hj]; omega)
      · rw [if_neg q]
        refine (key 7 x2 _ _ (Or.inr (Or.inl ⟨rfl, hx2⟩)) (by omega) (by omega) (l5 x2 hx2)).fn (fun i hi2 => ?_)
        show d 2 (M2.2 19 (5 * x2 + i)).toNatClampNeg = d 2 (M.2 19 (5 * x2 + i)).toNatClampNeg
        rw [r19, if_neg (by omega)]
    · rw [n29] at hv
      rw [nW2]
      have h12 := (hi.2.2.2.1 v hv).1.2
      by_cases q : v = w
      · subst q
        rw [if_pos rfl]
        refine ⟨hcap5 _ (hdj.1 8 v hLw), (hs5 _).rd.1.trans rc, fun i hi2 => ?_⟩
        rw [(hs5 _).rd.2.2]
        show lNth S2 (d 8 v) i = some (d 2 (M2.2 41 (12 * v + i)).toNatClampNeg)
        rw [r41]
        have hold := (l6 v hw).2.2
        rw [hn] at hold
        rcases Nat.lt_or_ge i p with y | y
        · rw [ra i y, if_neg (by omega), (hl0 8 v hLw).2.rd.2.2]
          exact hold i (by omega)
        · rw [rb i y hi2, if_pos (by omega), (hl0 8 v hLw).2.rd.2.2]
          exact hold (i + 1) (by omega)
      · rw [if_neg q]
        refine (key 8 v _ _ (Or.inr (Or.inr ⟨rfl, hv⟩)) (by omega) (by omega) (l6 v hv)).fn (fun i hi2 => ?_)
        show d 2 (M2.2 41 (12 * v + i)).toNatClampNeg = d 2 (M.2 41 (12 * v + i)).toNatClampNeg
        rw [r41, if_neg (by omega)]
    · unfold isL at z1 z2
      rw [n29] at z1 z2
      rw [(hs5 _).rd.2.1] at z3 ⊢
      rw [(hs5 _).rd.2.1] at z3
      exact hdj.2 k1 i1 k2 i2 z1 z2 z3
  · exact hi.1.mono  (c 29) (c 22) (c 46)
  · exact hi.2.1.mono (m 9 (by omega) (by omega) (by omega) (by omega) (by omega) (by omega) (by omega)) (m 7 (by omega) (by omega) (by omega) (by omega) (by omega) (by omega) (by omega)) (m 5 (by omega) (by omega) (by omega) (by omega) (by omega) (by omega) (by omega)) (m 15 (by omega) (by omega) (by omega) (by omega) (by omega) (by omega) (by omega)) 
  · intro t' ht'
    obtain ⟨i1, i2, i3, i4⟩ := hi.2.2.1 t' ht'
    have h5 := iTie_n hi.2.2.1 ht'
    rw [nT2, r18, m 17 (by omega) (by omega) (by omega) (by omega) (by omega) (by omega) (by omega), n22]
    have hold : ∀ i, i < nT M t' → ∃ g2, g2 < nBg M ∧ M.2 19 (5 * t' + i) = nI g2 ∧ M2.2 28 g2 = -1 ∧ M2.2 27 g2 = nI t' := fun i hi2 => by
      obtain ⟨g2, hg2, e1, e2, e3⟩ := i4 i hi2
      have hgg : g2 ≠ g := fun y => hz28 (by rw [← y]; exact e2)
      exact ⟨g2, hg2, e1, by rw [r28, if_neg hgg]; exact e2, by rw [r27, if_neg hgg]; exact e3⟩
    by_cases q : t' = s
    · subst q
      rw [if_pos rfl, if_pos rfl]
      refine ⟨rfl, i2, ?_, fun i hi2 => ?_⟩
      · rw [i18, Int32.lt_iff_toInt_lt, nI_toInt (by omega)] at hroom
        rw [Int32.le_iff_toInt_le, nI_toInt (by omega)]
        omega
      · rw [r19]
        by_cases y : i = j
        · exact ⟨g, hg, by rw [if_pos (by omega)], by rw [r28, if_pos rfl], by rw [r27, if_pos rfl]⟩
        · rw [if_neg (by omega)]
          exact hold i (by rw [hj]; omega)
    · rw [if_neg q, if_neg q]
      refine ⟨i1, i2, i3, fun i hi2 => ?_⟩
      rw [r19, if_neg (by omega)]
      exact hold i hi2
  · intro v hv
    rw [n29] at hv
    obtain ⟨⟨i1, i1b⟩, i2, i3⟩ := hi.2.2.2.1 v hv
    rw [nW2, r42, n22]
    refine ⟨?_, by unfold mWk; rw [m 40 (by omega) (by omega) (by omega) (by omega) (by omega) (by omega) (by omega)]; exact i2, fun i hi2 => ?_⟩
    · by_cases q : v = w
      · rw [if_pos q, if_pos q]; exact ⟨rfl, by omega⟩
      · rw [if_neg q, if_neg q]; exact ⟨i1, i1b⟩
    · rw [r41]
      by_cases q : v = w
      · subst q
        rw [if_pos rfl] at hi2
        obtain ⟨i', hi', hne, e'⟩ : ∃ i', i' < n ∧ i' ≠ p ∧ (if 12 * v + p ≤ 12 * v + i ∧ 12 * v + i < 12 * v + p + (n - 1 - p) then M.2 41 (12 * v + i + 1) else M.2 41 (12 * v + i)) = M.2 41 (12 * v + i') := by
          rcases Nat.lt_or_ge i p with y | y
          · exact ⟨i, by omega, by omega, by rw [if_neg (by omega)]⟩
          · exact ⟨i + 1, by omega, by omega, by rw [if_pos (by omega)]; rfl⟩
        rw [e']
        obtain ⟨g2, hg2, e1, e2⟩ := i3 i' (by rw [hn]; exact hi')
        have hgg : g2 ≠ g := fun y => hne (huq i' hi' (by rw [e1, y]))
        exact ⟨g2, hg2, e1, by rw [r28, if_neg hgg]; exact e2⟩
      · rw [if_neg q] at hi2
        rw [if_neg (by omega)]
        obtain ⟨g2, hg2, e1, e2⟩ := i3 i hi2
        have hgg : g2 ≠ g := fun y => by
          rw [y, h28, eq_nI (by omega) (by omega)] at e2
          exact q e2.symm
        exact ⟨g2, hg2, e1, by rw [r28, if_neg hgg]; exact e2⟩
  · intro y hy
    rw [n22] at hy
    obtain ⟨i1, i2, i3⟩ := hi.2.2.2.2.1 y hy
    rw [m 24 (by omega) (by omega) (by omega) (by omega) (by omega) (by omega) (by omega), m 25 (by omega) (by omega) (by omega) (by omega) (by omega) (by omega) (by omega), m 23 (by omega) (by omega) (by omega) (by omega) (by omega) (by omega) (by omega), r27, r28, n46, n29]
    refine ⟨?_, i2, i3⟩
    by_cases q : y = g
    · subst q
      rw [if_pos rfl, if_pos rfl]
      refine Or.inl ⟨rfl, s, j, hs16, rfl, by rw [nT2, if_pos rfl]; omega, by rw [r19, if_pos rfl], fun i hi2 he => ?_⟩
      rw [nT2, if_pos rfl] at hi2
      rw [r19] at he
      by_cases z : i = j
      · exact z
      · rw [if_neg (by omega)] at he
        obtain ⟨g2, hg2, e1, e2, -⟩ := (hi.2.2.1 s hs16).2.2.2 i (by rw [hj]; omega)
        rw [e1, eq_nI (by omega) (by omega)] at he
        rw [he] at e2
        exact absurd e2 hz28
    · rw [if_neg q, if_neg q]
      rcases i1 with ⟨z, t2, p2, ht2, e2, hp2, ep2, hu⟩ | ⟨v, p2, hv, e2, hp2, ep2, hu⟩
      · have h5 := iTie_n hi.2.2.1 ht2
        refine Or.inl ⟨z, t2, p2, ht2, e2, ?_, ?_, fun i hi2 he => ?_⟩
        · rw [nT2]
          split
          · rename_i q2; rw [q2, hj] at hp2; omega
          · exact hp2
        · rw [r19, if_neg]
          · exact ep2
          · intro y2
            by_cases q2 : t2 = s
            · rw [q2, hj] at hp2; omega
            · omega
        · rw [nT2] at hi2
          rw [r19] at he
          by_cases q2 : t2 = s
          · rw [if_pos q2] at hi2
            by_cases y2 : i = j
            · rw [if_pos (by omega), eq_nI (by omega) (by omega)] at he
              exact absurd he.symm q
            · rw [if_neg (by omega)] at he
              exact hu i (by rw [q2, hj]; omega) he
          · rw [if_neg q2] at hi2
            rw [if_neg (by omega)] at he
            exact hu i hi2 he
      · have h12 := (hi.2.2.2.1 v hv).1.2
        refine Or.inr ⟨v, ?_⟩
        by_cases q2 : v = w
        · subst q2
          rw [hn] at hp2 hu
          have hpp : p2 ≠ p := fun y2 => by
            rw [y2, h41, eq_nI (by omega) (by omega)] at ep2
            exact q ep2.symm
          have look : ∀ i, i < n - 1 → M2.2 41 (12 * v + i) = M.2 41 (12 * v + (if i < p then i else i + 1)) := fun i hi2 => by
            rw [r41]
            rcases Nat.lt_or_ge i p with y2 | y2
            · rw [if_neg (by omega), if_pos y2]
            · rw [if_pos (by omega), if_neg (by omega)]
              rfl
          refine ⟨if p2 < p then p2 else p2 - 1, hv, e2, ?_, ?_, fun i hi2 he => ?_⟩
          · rw [nW2, if_pos rfl]
            split <;> omega
          · rw [look _ (by split <;> omega)]
            rcases Nat.lt_or_ge p2 p with y2 | y2
            · rw [if_pos y2, if_pos y2]; exact ep2
            · rw [if_neg (show ¬ p2 < p by omega), if_neg (by omega), show p2 - 1 + 1 = p2 by omega]; exact ep2
          · rw [nW2, if_pos rfl] at hi2
            rw [look i hi2] at he
            have := hu _ (by split <;> omega) he
            split at this <;> split <;> omega
        · refine ⟨p2, hv, e2, by rw [nW2, if_neg q2]; exact hp2, by rw [r41, if_neg (by omega)]; exact ep2, fun i hi2 he => ?_⟩
          rw [nW2, if_neg q2] at hi2
          rw [r41, if_neg (by omega)] at he
          exact hu i hi2 he
  · exact hi.2.2.2.2.2.1.mono (m 47 (by omega) (by omega) (by omega) (by omega) (by omega) (by omega) (by omega)) (m 48 (by omega) (by omega) (by omega) (by omega) (by omega) (by omega) (by omega)) (m 49 (by omega) (by omega) (by omega) (by omega) (by omega) (by omega) (by omega)) (m 51 (by omega) (by omega) (by omega) (by omega) (by omega) (by omega) (by omega)) (c 46)
  · exact hi.2.2.2.2.2.2.1.mono (m 37 (by omega) (by omega) (by omega) (by omega) (by omega) (by omega) (by omega)) (m 35 (by omega) (by omega) (by omega) (by omega) (by omega) (by omega) (by omega)) (m 34 (by omega) (by omega) (by omega) (by omega) (by omega) (by omega) (by omega)) (m 33 (by omega) (by omega) (by omega) (by omega) (by omega) (by omega) (by omega)) (m 36 (by omega) (by omega) (by omega) (by omega) (by omega) (by omega) (by omega)) (c 29)
  · exact hi.2.2.2.2.2.2.2.1.mono (m 45 (by omega) (by omega) (by omega) (by omega) (by omega) (by omega) (by omega)) (c 29)
  · obtain ⟨z1, z2⟩ := hi.2.2.2.2.2.2.2.2.1
    refine ⟨fun v hv hh => ?_, fun x2 hx2 hh => ?_⟩
    · rw [n29] at hh
      rw [m 32 (by omega) (by omega) (by omega) (by omega) (by omega) (by omega) (by omega), m 43 (by omega) (by omega) (by omega) (by omega) (by omega) (by omega) (by omega), m 44 (by omega) (by omega) (by omega) (by omega) (by omega) (by omega) (by omega), m 35 (by omega) (by omega) (by omega) (by omega) (by omega) (by omega) (by omega), r39, r42, if_neg (by omega), if_neg (by omega)]
      exact z1 v hv hh
    · rw [n46] at hh
      rw [m 53 (by omega) (by omega) (by omega) (by omega) (by omega) (by omega) (by omega), m 54 (by omega) (by omega) (by omega) (by omega) (by omega) (by omega) (by omega), m 55 (by omega) (by omega) (by omega) (by omega) (by omega) (by omega) (by omega)]
      exact z2 x2 hx2 hh
  · exact hi.2.2.2.2.2.2.2.2.2.mono (m 20 (by omega) (by omega) (by omega) (by omega) (by omega) (by omega) (by omega)) (c 1) (c 4)

