/-! The class's answers are the reference's: to couple. -/
theorem mCpl_v {M : mS} {w g t p n nt : Nat} (hw : w < 6) (hg : g < 24) (ht : t < 16) (hn : n < 12) (h42 : M.2 42 w = nI n) : (∀ k, k ≠ 41 → k ≠ 18 → k ≠ 19 → k ≠ 28 → k ≠ 42 → k ≠ 39 → (mCpl (mAst M 41 (12 * w + n) (nI g)) (nI w) (nI g) t p nt).2 k = M.2 k) ∧ (∀ i, (mCpl (mAst M 41 (12 * w + n) (nI g)) (nI w) (nI g) t p nt).2 41 i = if i = 12 * w + n then nI g else M.2 41 i) ∧ (∀ i, (mCpl (mAst M 41 (12 * w + n) (nI g)) (nI w) (nI g) t p nt).2 18 i = if i = t then nI (nt - 1) else M.2 18 i) ∧ (∀ i, (mCpl (mAst M 41 (12 * w + n) (nI g)) (nI w) (nI g) t p nt).2 19 i = if 5 * t + p ≤ i ∧ i < 5 * t + p + (nt - 1 - p) then M.2 19 (i + 1) else M.2 19 i) ∧ (∀ i, (mCpl (mAst M 41 (12 * w + n) (nI g)) (nI w) (nI g) t p nt).2 28 i = if i = g then nI w else M.2 28 i) ∧ (∀ i, (mCpl (mAst M 41 (12 * w + n) (nI g)) (nI w) (nI g) t p nt).2 42 i = if i = w then nI (n + 1) else M.2 42 i) ∧ (∀ i, (mCpl (mAst M 41 (12 * w + n) (nI g)) (nI w) (nI g) t p nt).2 39 i = if i = w then M.2 39 w + (2 + nI (nt - 1 - p)) else M.2 39 i) ∧ (∀ k, k ≠ 56 → (mCpl (mAst M 41 (12 * w + n) (nI g)) (nI w) (nI g) t p nt).1 k = M.1 k) ∧ (mCpl (mAst M 41 (12 * w + n) (nI g)) (nI w) (nI g) t p nt).1 56 = M.1 56 + 3 * nI (nt - 1 - p) := by
  have sh : ∀ (A : mS) (a lo k b i : Nat), b ≠ a → (mShL A a lo k).2 b i = A.2 b i := fun A a lo k b i hne => by rw [mShL_2, if_neg (fun z => hne z.1)]
  unfold mCpl mLt
  rw [ix_nI (show g < 1000 by omega), ix_nI (show w < 1000 by omega)]
  simp only [mAst_ne (show (42 : Nat) ≠ 41 by omega), mAst_ne (show (39 : Nat) ≠ 41 by omega), mAst_1, mShL_1]
  rw [h42, nI1]
  refine ⟨fun k a b c d e f => ?_, fun i => ?_, fun i => ?_, fun i => ?_, fun i => ?_, fun i => ?_, fun i => ?_, fun k a => by rw [mSet_ne a]; simp only [mAst_1, mShL_1], mSet_eq⟩
  · rw [mSet_2, mAst_ne f, mAst_ne e, mAst_ne d]
    funext i
    rw [sh _ _ _ _ _ _ c, mAst_ne b, mAst_ne a]
  · rw [mSet_2, mAst_ne (by omega), mAst_ne (by omega), mAst_ne (by omega), sh _ _ _ _ _ _ (by omega), mAst_ne (by omega), mAst_eq]
  · rw [mSet_2, mAst_ne (by omega), mAst_ne (by omega), mAst_ne (by omega), sh _ _ _ _ _ _ (by omega), mAst_eq, mAst_ne (by omega)]
  · rw [mSet_2, mAst_ne (by omega), mAst_ne (by omega), mAst_ne (by omega), mShL_2, mAst_ne (by omega), mAst_ne (by omega)]
    by_cases z : 5 * t + p ≤ i ∧ i < 5 * t + p + (nt - 1 - p)
    · rw [if_pos z, if_pos ⟨rfl, z⟩]
    · rw [if_neg z, if_neg (fun y => z y.2)]
  · rw [mSet_2, mAst_ne (by omega), mAst_ne (by omega), mAst_eq, sh _ _ _ _ _ _ (by omega), mAst_ne (by omega), mAst_ne (by omega)]
  · rw [mSet_2, mAst_ne (by omega), mAst_eq, mAst_ne (by omega), sh _ _ _ _ _ _ (by omega), mAst_ne (by omega), mAst_ne (by omega)]
  · rw [mSet_2, mAst_eq, mAst_ne (by omega), mAst_ne (by omega), sh _ _ _ _ _ _ (by omega), mAst_ne (by omega), mAst_ne (by omega)]

theorem R0_cpl {W9 : xWd} {d : Nat → Nat → Nat} {S S2 : cS} {M : mS} {w g t p n nt : Nat} {x : Int32} (hd : dInj d) (hR : R0 W9 d S M) (hi : iAll M) (hw : w < nBt M) (hg : g < nBg M) (ht : t < 16) (h28 : M.2 28 g = -1) (h27 : M.2 27 g = nI t) (hnt : nT M t = nt) (hp : p < nt) (h19 : M.2 19 (5 * t + p) = nI g) (hn : nW M w = n) (hn12 : n < 12) (hA : lAdd W9 (cSetI (lRem S (d 7 t) p) (d 8 w) 0 x) (d 8 w) (d 2 g) S2) : R0 W9 d (cSetI (cSetI (cSetR S2 (d 2 g) 102 (some (d 5 w))) (d 4 w) 205 (cFi S (d 4 w) 205 + (2 + nI (nt - 1 - p)))) (d 9 0) 811 (cFi S (d 9 0) 811 + nI (nt - 1 - p) * 3)) (mCpl (mAst M 41 (12 * w + n) (nI g)) (nI w) (nI g) t p nt) ∧ iAll (mCpl (mAst M 41 (12 * w + n) (nI g)) (nI w) (nI g) t p nt) := by
  have hb29 := hi.1.1.2
  have hb22 := hi.1.2.1.2
  have hb46 := hi.1.2.2.2
  have hL := rLst.dj hR.2.2.2.2.2.2.2.2.2.2
  have hLt : isL M 7 t := Or.inr (Or.inl ⟨rfl, ht⟩)
  have hLw : isL M 8 w := Or.inr (Or.inr ⟨rfl, hw⟩)
  obtain ⟨⟨l0, l1, l2, l3, l4⟩, l5, l6, l7⟩ := hR.2.2.2.2.2.2.2.2.2.2
  have ct : lCn S (d 7 t) = nt := by rw [(l5 t ht).2.1, hnt]
  have cw : lCn S (d 8 w) = n := by rw [(l6 w hw).2.1, hn]
  obtain ⟨ff, hdj, hs, ⟨rc, ra, rb⟩, ⟨ac, aa, ab⟩⟩ := mv_lists hL hd hLt hLw (by omega) (by rw [ct]; exact hp) (by rw [cw]; omega) hA
  rw [ct] at rc rb
  rw [cw] at ac aa ab
  have h42 : M.2 42 w = nI n := by rw [(hi.2.2.2.1 w hw).1.1, hn]
  have hnt5 : nt ≤ 5 := by rw [← hnt]; exact iTie_n hi.2.2.1 ht
  obtain ⟨m, r41, r18, r19, r28, r42, r39, c, c56⟩ := mCpl_v (M := M) (p := p) (nt := nt) (show w < 6 by omega) (show g < 24 by omega) ht hn12 h42
  generalize hM2 : mCpl (mAst M 41 (12 * w + n) (nI g)) (nI w) (nI g) t p nt = M2 at *
  have n22 : nBg M2 = nBg M := by unfold nBg; rw [c 22 (by omega)]
  have n29 : nBt M2 = nBt M := by unfold nBt; rw [c 29 (by omega)]
  have n46 : nCo M2 = nCo M := by unfold nCo; rw [c 46 (by omega)]
  have nT2 : ∀ t', nT M2 t' = if t' = t then nt - 1 else nT M t' := fun t' => by
    unfold nT
    rw [r18]
    by_cases z : t' = t
    · rw [if_pos z, if_pos z, ix_nI (by omega)]
    · rw [if_neg z, if_neg z]
  have nW2 : ∀ v, nW M2 v = if v = w then n + 1 else nW M v := fun v => by
    unfold nW
    rw [r42]
    by_cases z : v = w
    · rw [if_pos z, if_pos z, ix_nI (by omega)]
    · rw [if_neg z, if_neg z]
  generalize hk : nt - 1 - p = k at *
  generalize hv1 : cFi S (d 4 w) 205 + (2 + nI k) = v1
  generalize hv2 : cFi S (d 9 0) 811 + nI k * 3 = v2
  generalize hS5 : cSetI (cSetI (cSetR S2 (d 2 g) 102 (some (d 5 w))) (d 4 w) 205 v1) (d 9 0) 811 v2 = S5
  have n24 : ∀ a b, d 2 a ≠ d 4 b := fun a b => hd.ne (by omega)
  have n29b : ∀ a, d 2 a ≠ d 9 0 := fun a => hd.ne (by omega)
  have n49 : ∀ a, d 4 a ≠ d 9 0 := fun a => hd.ne (by omega)
  have hsm : ∀ k i, us M k i → ¬ (k = 2 ∧ i = g) → ¬ (k = 4 ∧ i = w) → ¬ (k = 9 ∧ i = 0) → sm S S5 (d k i) := fun k i z y1 y2 y3 => by
    rw [← hS5]
    exact (((ff.sm (R0_live hR z)).sR (fun y => y1 (hd _ _ _ _ y))).sI (fun y => y2 (hd _ _ _ _ y))).sI (fun y => y3 (hd _ _ _ _ y))
  have hK5 : ∀ k i, us M k i → cK S5 (d k i) = cK S (d k i) := fun k i z => by rw [← hS5]; exact ff.1 _ (R0_live hR z)
  have hF5 : ∀ k i f, us M k i → 2 < f → ¬ (k = 4 ∧ f = 205) → ¬ (k = 9 ∧ f = 811) → cFi S5 (d k i) f = cFi S (d k i) f := fun k i f z hf y1 y2 => by
    rw [← hS5, cFi_setI, if_neg (fun y => y2 ⟨(hd _ _ _ _ y.1).1, y.2⟩), cFi_setI, if_neg (fun y => y1 ⟨(hd _ _ _ _ y.1).1, y.2⟩)]
    exact ff.2.1 _ f hf (R0_live hR z)
  have hR5 : ∀ k i f, us M k i → 2 < f → ¬ (k = 2 ∧ i = g ∧ f = 102) → cFr S5 (d k i) f = cFr S (d k i) f := fun k i f z hf y1 => by
    rw [← hS5, cFr_setI, cFr_setI, cFr_setR, if_neg (fun y => y1 ⟨(hd _ _ _ _ y.1).1, (hd _ _ _ _ y.1).2, y.2⟩)]
    exact ff.2.2.1 _ f hf (R0_live hR z)
  have hs5 : ∀ L, lSame S2 S5 L := fun L => by
    rw [← hS5]
    exact ((same_sR (Or.inl (by omega))).trans (same_sI (Or.inl (by omega)))).trans (same_sI (Or.inl (by omega)))
  have hsl : ∀ k i, isL M k i → ¬ (k = 7 ∧ i = t) → ¬ (k = 8 ∧ i = w) → lSame S S5 (d k i) := fun k i z y1 y2 => (hs k i z y1 y2).trans (hs5 _)
  have hcap5 : ∀ L, lCap W9 S2 L → lCap W9 S5 L := fun L ⟨c1, c2, c3, c4, c5⟩ => by
    obtain ⟨e1, e2, e3⟩ := (hs5 L).rd
    have ek : ∀ a, cK S5 a = cK S2 a := fun a => by rw [← hS5]; rfl
    have el : ∀ a, cLen S5 a = cLen S2 a := fun a => by rw [← hS5]; rfl
    refine ⟨by rw [ek]; exact c1, by rw [(hs5 L).1, e1]; exact c2, by rw [e1]; exact c3, by rw [(hs5 L).2.1, e2]; exact c4, ?_⟩
    rw [e1, e2, ek, el]
    exact c5
  have key : ∀ k i n f, isL M k i → ¬ (k = 7 ∧ i = t) → ¬ (k = 8 ∧ i = w) → lst W9 S (d k i) n f → lst W9 S5 (d k i) n f := fun k i n f z y1 y2 hl => by
    have hh := hsl k i z y1 y2
    exact ⟨hcap5 _ (hdj.1 k i z), hh.rd.1.trans hl.2.1, fun j hj => (hh.rd.2.2 j).trans (hl.2.2 j hj)⟩
  have huq : ∀ i, i < nt → M.2 19 (5 * t + i) = nI g → i = p := fun i hi2 he => by
    rcases (hi.2.2.2.2.1 g hg).1 with ⟨-, t2, p2, ht2, e2, hp2, ep2, hu⟩ | ⟨v, p2, hv, e2, -⟩
    · rw [h27, eq_nI (by omega) (by omega)] at e2
      subst e2
      rw [hnt] at hp2 hu
      rw [hu i hi2 he, hu p hp h19]
    · rw [h28] at e2
      exact absurd e2.symm (nI_m1 (by omega))
  refine ⟨⟨?_, ?_, ?_, ?_, ?_, ?_, ?_, ?_, ?_, ?_, ?_⟩, ⟨?_, ?_, ?_, ?_, ?_, ?_, ?_, ?_, ?_, ?_⟩⟩
  · exact hR.1.mono (fun z w => hsm _ _ (us0 w) (by omega) (by omega) (by omega)) (m 5 (by omega) (by omega) (by omega) (by omega) (by omega) (by omega)) (m 6 (by omega) (by omega) (by omega) (by omega) (by omega) (by omega)) (m 7 (by omega) (by omega) (by omega) (by omega) (by omega) (by omega)) (m 8 (by omega) (by omega) (by omega) (by omega) (by omega) (by omega)) (m 9 (by omega) (by omega) (by omega) (by omega) (by omega) (by omega)) (m 10 (by omega) (by omega) (by omega) (by omega) (by omega) (by omega)) (m 11 (by omega) (by omega) (by omega) (by omega) (by omega) (by omega)) (m 12 (by omega) (by omega) (by omega) (by omega) (by omega) (by omega)) (m 13 (by omega) (by omega) (by omega) (by omega) (by omega) (by omega)) (m 14 (by omega) (by omega) (by omega) (by omega) (by omega) (by omega)) (m 15 (by omega) (by omega) (by omega) (by omega) (by omega) (by omega)) (m 16 (by omega) (by omega) (by omega) (by omega) (by omega) (by omega)) 
  · exact hR.2.1.mono (fun z w => hsm _ _ (us1 w) (by omega) (by omega) (by omega)) (m 17 (by omega) (by omega) (by omega) (by omega) (by omega) (by omega)) 
  · exact hR.2.2.1.mono (fun z w => hsm _ _ (us5 w) (by omega) (by omega) (by omega)) (m 40 (by omega) (by omega) (by omega) (by omega) (by omega) (by omega)) (c 29 (by omega))
  · intro y hy
    rw [n22] at hy
    obtain ⟨h0, h100, h101, h102, h103, h104, h105⟩ := hR.2.2.2.1 y hy
    have z := us2 hy
    rw [m 23 (by omega) (by omega) (by omega) (by omega) (by omega) (by omega), m 24 (by omega) (by omega) (by omega) (by omega) (by omega) (by omega), m 25 (by omega) (by omega) (by omega) (by omega) (by omega) (by omega), m 26 (by omega) (by omega) (by omega) (by omega) (by omega) (by omega), m 27 (by omega) (by omega) (by omega) (by omega) (by omega) (by omega), r28, hK5 2 y z, hF5 2 y 100 z (by omega) (by omega) (by omega), hF5 2 y 101 z (by omega) (by omega) (by omega), hF5 2 y 103 z (by omega) (by omega) (by omega), hF5 2 y 105 z (by omega) (by omega) (by omega), hR5 2 y 104 z (by omega) (by omega)]
    refine ⟨h0, h100, h101, ?_, h103, h104, h105⟩
    by_cases q : y = g
    · rw [if_pos q, if_neg (nI_m1 (by omega)), ix_nI (by omega), q, ← hS5, cFr_setI, cFr_setI, cFr_setR, if_pos ⟨rfl, rfl⟩]
    · rw [if_neg q, hR5 2 y 102 z (by omega) (by omega)]
      exact h102
  · exact hR.2.2.2.2.1.mono (fun z w => hsm _ _ (us3 w) (by omega) (by omega) (by omega)) (m 47 (by omega) (by omega) (by omega) (by omega) (by omega) (by omega)) (m 48 (by omega) (by omega) (by omega) (by omega) (by omega) (by omega)) (m 49 (by omega) (by omega) (by omega) (by omega) (by omega) (by omega)) (m 50 (by omega) (by omega) (by omega) (by omega) (by omega) (by omega)) (m 51 (by omega) (by omega) (by omega) (by omega) (by omega) (by omega)) (m 52 (by omega) (by omega) (by omega) (by omega) (by omega) (by omega)) (m 53 (by omega) (by omega) (by omega) (by omega) (by omega) (by omega)) (m 54 (by omega) (by omega) (by omega) (by omega) (by omega) (by omega)) (m 55 (by omega) (by omega) (by omega) (by omega) (by omega) (by omega)) (m 24 (by omega) (by omega) (by omega) (by omega) (by omega) (by omega)) (m 25 (by omega) (by omega) (by omega) (by omega) (by omega) (by omega)) (c 46 (by omega)) (c 22 (by omega))
  · intro v hv
    rw [n29] at hv
    by_cases q : v = w
    · subst q
      obtain ⟨h0, h200, h201, h202, h203, h204, h205, h206, h207, h208, h209, h210, h211, h213, h214⟩ := hR.2.2.2.2.2.1 v hv
      have z := us4 hv
      rw [m 30 (by omega) (by omega) (by omega) (by omega) (by omega) (by omega), m 31 (by omega) (by omega) (by omega) (by omega) (by omega) (by omega), m 32 (by omega) (by omega) (by omega) (by omega) (by omega) (by omega), m 33 (by omega) (by omega) (by omega) (by omega) (by omega) (by omega), m 34 (by omega) (by omega) (by omega) (by omega) (by omega) (by omega), m 35 (by omega) (by omega) (by omega) (by omega) (by omega) (by omega), m 36 (by omega) (by omega) (by omega) (by omega) (by omega) (by omega), m 37 (by omega) (by omega) (by omega) (by omega) (by omega) (by omega), m 38 (by omega) (by omega) (by omega) (by omega) (by omega) (by omega), m 43 (by omega) (by omega) (by omega) (by omega) (by omega) (by omega), r39, if_pos rfl, hK5 4 v z, hR5 4 v 203 z (by omega) (by omega), hR5 4 v 214 z (by omega) (by omega), hF5 4 v 200 z (by omega) (by omega) (by omega), hF5 4 v 201 z (by omega) (by omega) (by omega), hF5 4 v 202 z (by omega) (by omega) (by omega), hF5 4 v 204 z (by omega) (by omega) (by omega), hF5 4 v 206 z (by omega) (by omega) (by omega), hF5 4 v 207 z (by omega) (by omega) (by omega), hF5 4 v 208 z (by omega) (by omega) (by omega), hF5 4 v 209 z (by omega) (by omega) (by omega), hF5 4 v 210 z (by omega) (by omega) (by omega), hF5 4 v 211 z (by omega) (by omega) (by omega), hF5 4 v 213 z (by omega) (by omega) (by omega)]
      refine ⟨h0, h200, h201, h202, h203, h204, ?_, h206, h207, h208, h209, h210, h211, h213, h214⟩
      rw [← hS5, cFi_setI, if_neg (fun y => by omega), cFi_setI, if_pos ⟨rfl, rfl⟩, ← hv1, h205]
    · exact rowB.mono (hR.2.2.2.2.2.1 v hv) (hsm 4 v (us4 hv) (by omega) (by omega) (by omega)) (by rw [m 30 (by omega) (by omega) (by omega) (by omega) (by omega) (by omega)]) (by rw [m 31 (by omega) (by omega) (by omega) (by omega) (by omega) (by omega)]) (by rw [m 32 (by omega) (by omega) (by omega) (by omega) (by omega) (by omega)]) (by rw [m 33 (by omega) (by omega) (by omega) (by omega) (by omega) (by omega)]) (by rw [m 34 (by omega) (by omega) (by omega) (by omega) (by omega) (by omega)]) (by rw [m 35 (by omega) (by omega) (by omega) (by omega) (by omega) (by omega)]) (by rw [m 36 (by omega) (by omega) (by omega) (by omega) (by omega) (by omega)]) (by rw [m 37 (by omega) (by omega) (by omega) (by omega) (by omega) (by omega)]) (by rw [m 38 (by omega) (by omega) (by omega) (by omega) (by omega) (by omega)]) (by rw [r39, if_neg q]) (by rw [m 43 (by omega) (by omega) (by omega) (by omega) (by omega) (by omega)])
  · intro v hv u hu6
    rw [n29] at hv
    rw [m 45 (by omega) (by omega) (by omega) (by omega) (by omega) (by omega), hF5 4 v 212 (us4 hv) (by omega) (by omega) (by omega)]
    exact hR.2.2.2.2.2.2.1 v hv u hu6
  · exact hR.2.2.2.2.2.2.2.1.mono (fun z w => hsm _ _ (us10 w) (by omega) (by omega) (by omega)) (m 44 (by omega) (by omega) (by omega) (by omega) (by omega) (by omega)) (c 29 (by omega))
  · obtain ⟨a0, ⟨b0, b1, b2, b3, b4, b5, b6⟩, a807, a808, a809, a810, a811, a812, a813⟩ := hR.2.2.2.2.2.2.2.2.1
    have z : us M 9 0 := us9 (by omega)
    refine ⟨(hK5 9 0 z).trans a0, ⟨?_, ?_, ?_, ?_, ?_, ?_, ?_⟩, ?_, ?_, ?_, ?_, ?_, ?_, ?_⟩
    · rw [hR5 9 0 800 z (by omega) (by omega)]; exact b0
    · rw [hR5 9 0 801 z (by omega) (by omega)]; exact b1
    · rw [hR5 9 0 802 z (by omega) (by omega)]; exact b2
    · rw [hR5 9 0 803 z (by omega) (by omega)]; exact b3
    · rw [hR5 9 0 804 z (by omega) (by omega)]; exact b4
    · rw [hR5 9 0 805 z (by omega) (by omega)]; exact b5
    · rw [hR5 9 0 806 z (by omega) (by omega)]; exact b6
    · rw [hF5 9 0 807 z (by omega) (by omega) (by omega), c 1 (by omega)]; exact a807
    · rw [hF5 9 0 808 z (by omega) (by omega) (by omega), c 2 (by omega)]; exact a808
    · rw [hF5 9 0 809 z (by omega) (by omega) (by omega), c 3 (by omega)]; exact a809
    · rw [hF5 9 0 810 z (by omega) (by omega) (by omega), c 4 (by omega)]; exact a810
    · rw [c56, ← hS5, cFi_setI, if_pos ⟨rfl, rfl⟩, ← hv2, a811, Int32.mul_comm]
    · rw [hF5 9 0 812 z (by omega) (by omega) (by omega), c 57 (by omega)]; exact a812
    · rw [hF5 9 0 813 z (by omega) (by omega) (by omega), c 58 (by omega)]; exact a813
  · exact hR.2.2.2.2.2.2.2.2.2.1.mono (hsm 9 1 (us9 (by omega)) (by omega) (by omega) (by omega)) (m 20 (by omega) (by omega) (by omega) (by omega) (by omega) (by omega)) (m 21 (by omega) (by omega) (by omega) (by omega) (by omega) (by omega)) (c 1 (by omega))
  · refine ⟨⟨?_, ?_, ?_, ?_, ?_⟩, fun x2 hx2 => ?_, fun v hv => ?_, fun k1 i1 k2 i2 z1 z2 z3 => ?_⟩
    · exact key 6 0 _ _ (Or.inl ⟨rfl, by omega⟩) (by omega) (by omega) l0
    · exact key 6 1 _ _ (Or.inl ⟨rfl, by omega⟩) (by omega) (by omega) l1
    · rw [n22]; exact key 6 2 _ _ (Or.inl ⟨rfl, by omega⟩) (by omega) (by omega) l2
    · rw [n46]; exact key 6 3 _ _ (Or.inl ⟨rfl, by omega⟩) (by omega) (by omega) l3
    · rw [n29]; exact key 6 4 _ _ (Or.inl ⟨rfl, by omega⟩) (by omega) (by omega) l4
    · rw [nT2]
      have h5 := iTie_n hi.2.2.1 hx2
      by_cases q : x2 = t
      · subst q
        rw [if_pos rfl]
        refine ⟨hcap5 _ (hdj.1 7 x2 hLt), (hs5 _).rd.1.trans rc, fun i hi2 => ?_⟩
        rw [(hs5 _).rd.2.2]
        show lNth S2 (d 7 x2) i = some (d 2 (M2.2 19 (5 * x2 + i)).toNatClampNeg)
        rw [r19]
        have hold := (l5 x2 ht).2.2
        rw [hnt] at hold
        rcases Nat.lt_or_ge i p with y | y
        · rw [ra i y, if_neg (by omega)]
          exact hold i (by omega)
        · rw [rb i y hi2, if_pos (by omega)]
          exact hold (i + 1) (by omega)
      · rw [if_neg q]
        refine (key 7 x2 _ _ (Or.inr (Or.inl ⟨rfl, hx2⟩)) (by omega) (by omega) (l5 x2 hx2)).fn (fun i hi2 => ?_)
        show d 2 (M2.2 19 (5 * x2 + i)).toNatClampNeg = d 2 (M.2 19 (5 * x2 + i)).toNatClampNeg
        rw [r19, if_neg (by omega)]
    · rw [n29] at hv
      rw [nW2]
      have h12 := (hi.2.2.2.1 v hv).1.2
      by_cases q : v = w
      · subst q
        rw [if_pos rfl]
        refine ⟨hcap5 _ (hdj.1 8 v hLw), (hs5 _).rd.1.trans ac, fun i hi2 => ?_⟩
        rw [(hs5 _).rd.2.2]
        show lNth S2 (d 8 v) i = some (d 2 (M2.2 41 (12 * v + i)).toNatClampNeg)
        rw [r41]
        by_cases y : i = n
        · rw [if_pos (by omega), y, ab, ix_nI (by omega)]
        · rw [if_neg (by omega), aa i (by omega)]
          exact (l6 v hw).2.2 i (by rw [hn]; omega)
      · rw [if_neg q]
        refine (key 8 v _ _ (Or.inr (Or.inr ⟨rfl, hv⟩)) (by omega) (by omega) (l6 v hv)).fn (fun i hi2 => ?_)
        show d 2 (M2.2 41 (12 * v + i)).toNatClampNeg = d 2 (M.2 41 (12 * v + i)).toNatClampNeg
        rw [r41, if_neg (by omega)]
    · unfold isL at z1 z2
      rw [n29] at z1 z2
      rw [(hs5 _).rd.2.1] at z3 ⊢
      rw [(hs5 _).rd.2.1] at z3
      exact hdj.2 k1 i1 k2 i2 z1 z2 z3
  · exact hi.1.mono  (c 29 (by omega)) (c 22 (by omega)) (c 46 (by omega))
  · exact hi.2.1.mono (m 9 (by omega) (by omega) (by omega) (by omega) (by omega) (by omega)) (m 7 (by omega) (by omega) (by omega) (by omega) (by omega) (by omega)) (m 5 (by omega) (by omega) (by omega) (by omega) (by omega) (by omega)) (m 15 (by omega) (by omega) (by omega) (by omega) (by omega) (by omega)) 
  · intro t' ht'
    obtain ⟨i1, i2, i3, i4⟩ := hi.2.2.1 t' ht'
    have h5 := iTie_n hi.2.2.1 ht'
    rw [nT2, r18, m 17 (by omega) (by omega) (by omega) (by omega) (by omega) (by omega), n22]
    by_cases q : t' = t
    · subst q
      rw [if_pos rfl, if_pos rfl]
      rw [hnt] at i1 i4
      refine ⟨rfl, i2, ?_, fun i hi2 => ?_⟩
      · rw [i1, Int32.le_iff_toInt_le, nI_toInt (by omega)] at i3
        rw [Int32.le_iff_toInt_le, nI_toInt (by omega)]
        omega
      · rw [r19]
        obtain ⟨i', hi', hne, e'⟩ : ∃ i', i' < nt ∧ i' ≠ p ∧ (if 5 * t' + p ≤ 5 * t' + i ∧ 5 * t' + i < 5 * t' + p + k then M.2 19 (5 * t' + i + 1) else M.2 19 (5 * t' + i)) = M.2 19 (5 * t' + i') := by
          rcases Nat.lt_or_ge i p with y | y
          · exact ⟨i, by omega, by omega, by rw [if_neg (by omega)]⟩
          · exact ⟨i + 1, by omega, by omega, by rw [if_pos (by omega)]; rfl⟩
        rw [e']
        obtain ⟨g2, hg2, e1, e2, e3⟩ := i4 i' hi'
        have hgg : g2 ≠ g := fun y => hne (huq i' hi' (by rw [e1, y]))
        exact ⟨g2, hg2, e1, by rw [r28, if_neg hgg]; exact e2, by rw [m 27 (by omega) (by omega) (by omega) (by omega) (by omega) (by omega)]; exact e3⟩
    · rw [if_neg q, if_neg q]
      refine ⟨i1, i2, i3, fun i hi2 => ?_⟩
      obtain ⟨g2, hg2, e1, e2, e3⟩ := i4 i hi2
      have hgg : g2 ≠ g := fun y => by
        rw [y, h27, eq_nI (by omega) (by omega)] at e3
        exact q e3.symm
      rw [r19, if_neg (by omega)]
      exact ⟨g2, hg2, e1, by rw [r28, if_neg hgg]; exact e2, by rw [m 27 (by omega) (by omega) (by omega) (by omega) (by omega) (by omega)]; exact e3⟩
  · intro v hv
    rw [n29] at hv
    obtain ⟨⟨i1, i1b⟩, i2, i3⟩ := hi.2.2.2.1 v hv
    rw [nW2, r42, n22]
    have hold : ∀ i, i < nW M v → ∃ g2, g2 < nBg M ∧ M.2 41 (12 * v + i) = nI g2 ∧ M2.2 28 g2 = nI v := fun i hi2 => by
      obtain ⟨g2, hg2, e1, e2⟩ := i3 i hi2
      have hgg : g2 ≠ g := fun y => by
        rw [y, h28] at e2
        exact nI_m1 (by omega) e2.symm
      exact ⟨g2, hg2, e1, by rw [r28, if_neg hgg]; exact e2⟩
    refine ⟨?_, by unfold mWk; rw [m 40 (by omega) (by omega) (by omega) (by omega) (by omega) (by omega)]; exact i2, fun i hi2 => ?_⟩
    · by_cases q : v = w
      · rw [if_pos q, if_pos q]; exact ⟨rfl, by omega⟩
      · rw [if_neg q, if_neg q]; exact ⟨i1, i1b⟩
    · rw [r41]
      by_cases q : v = w
      · rw [if_pos q] at hi2
        by_cases y : i = n
        · exact ⟨g, hg, by rw [if_pos (by rw [q, y])], by rw [r28, if_pos rfl, q]⟩
        · rw [if_neg (by omega)]
          exact hold i (by rw [q, hn]; omega)
      · rw [if_neg q] at hi2
        rw [if_neg (by omega)]
        exact hold i hi2
  · intro y hy
    rw [n22] at hy
    obtain ⟨i1, i2, i3⟩ := hi.2.2.2.2.1 y hy
    rw [m 24 (by omega) (by omega) (by omega) (by omega) (by omega) (by omega), m 25 (by omega) (by omega) (by omega) (by omega) (by omega) (by omega), m 23 (by omega) (by omega) (by omega) (by omega) (by omega) (by omega), m 27 (by omega) (by omega) (by omega) (by omega) (by omega) (by omega), r28, n46, n29]
    refine ⟨?_, i2, i3⟩
    by_cases q : y = g
    · subst q
      rw [if_pos rfl]
      refine Or.inr ⟨w, n, hw, rfl, by rw [nW2, if_pos rfl]; omega, by rw [r41, if_pos rfl], fun i hi2 he => ?_⟩
      rw [nW2, if_pos rfl] at hi2
      rw [r41] at he
      by_cases z : i = n
      · exact z
      · rw [if_neg (by omega)] at he
        obtain ⟨g2, hg2, e1, e2⟩ := (hi.2.2.2.1 w hw).2.2 i (by rw [hn]; omega)
        rw [e1, eq_nI (by omega) (by omega)] at he
        rw [he, h28] at e2
        exact absurd e2.symm (nI_m1 (by omega))
    · rw [if_neg q]
      rcases i1 with ⟨z, t2, p2, ht2, e2, hp2, ep2, hu⟩ | ⟨v, p2, hv, e2, hp2, ep2, hu⟩
      · have h5 := iTie_n hi.2.2.1 ht2
        refine Or.inl ⟨z, ?_⟩
        by_cases q2 : t2 = t
        · subst q2
          rw [hnt] at hp2 hu
          have hpp : p2 ≠ p := fun y2 => by
            rw [y2, h19, eq_nI (by omega) (by omega)] at ep2
            exact q ep2.symm
          have look : ∀ i, i < nt - 1 → M2.2 19 (5 * t2 + i) = M.2 19 (5 * t2 + (if i < p then i else i + 1)) := fun i hi2 => by
            rw [r19]
            rcases Nat.lt_or_ge i p with y2 | y2
            · rw [if_neg (by omega), if_pos y2]
            · rw [if_pos (by omega), if_neg (by omega)]
              rfl
          refine ⟨t2, if p2 < p then p2 else p2 - 1, ht2, e2, ?_, ?_, fun i hi2 he => ?_⟩
          · rw [nT2, if_pos rfl]
            split <;> omega
          · rw [look _ (by split <;> omega)]
            rcases Nat.lt_or_ge p2 p with y2 | y2
            · rw [if_pos y2, if_pos y2]; exact ep2
            · rw [if_neg (show ¬ p2 < p by omega), if_neg (by omega), show p2 - 1 + 1 = p2 by omega]; exact ep2
          · rw [nT2, if_pos rfl] at hi2
            rw [look i hi2] at he
            have := hu _ (by split <;> omega) he
            split at this <;> split <;> omega
        · refine ⟨t2, p2, ht2, e2, by rw [nT2, if_neg q2]; exact hp2, by rw [r19, if_neg (by omega)]; exact ep2, fun i hi2 he => ?_⟩
          rw [nT2, if_neg q2] at hi2
          rw [r19, if_neg (by omega)] at he
          exact hu i hi2 he
      · have h12 := (hi.2.2.2.1 v hv).1.2
        refine Or.inr ⟨v, p2, hv, e2, ?_, ?_, fun i hi2 he => ?_⟩
        · rw [nW2]
          split
          · rename_i q2; rw [q2, hn] at hp2; omega
          · exact hp2
        · rw [r41, if_neg]
          · exact ep2
          · intro y2
            by_cases q2 : v = w
            · rw [q2, hn] at hp2; omega
            · omega
        · rw [nW2] at hi2
          rw [r41] at he
          by_cases q2 : v = w
          · rw [if_pos q2] at hi2
            by_cases y2 : i = n
            · rw [if_pos (by omega), eq_nI (by omega) (by omega)] at he
              exact absurd he.symm q
            · rw [if_neg (by omega)] at he
              exact hu i (by rw [q2, hn]; omega) he
          · rw [if_neg q2] at hi2
            rw [if_neg (by omega)] at he
            exact hu i hi2 he
  · exact hi.2.2.2.2.2.1.mono (m 47 (by omega) (by omega) (by omega) (by omega) (by omega) (by omega)) (m 48 (by omega) (by omega) (by omega) (by omega) (by omega) (by omega)) (m 49 (by omega) (by omega) (by omega) (by omega) (by omega) (by omega)) (m 51 (by omega) (by omega) (by omega) (by omega) (by omega) (by omega)) (c 46 (by omega))
  · exact hi.2.2.2.2.2.2.1.mono (m 37 (by omega) (by omega) (by omega) (by omega) (by omega) (by omega)) (m 35 (by omega) (by omega) (by omega) (by omega) (by omega) (by omega)) (m 34 (by omega) (by omega) (by omega) (by omega) (by omega) (by omega)) (m 33 (by omega) (by omega) (by omega) (by omega) (by omega) (by omega)) (m 36 (by omega) (by omega) (by omega) (by omega) (by omega) (by omega)) (c 29 (by omega))
  · exact hi.2.2.2.2.2.2.2.1.mono (m 45 (by omega) (by omega) (by omega) (by omega) (by omega) (by omega)) (c 29 (by omega))
  · obtain ⟨z1, z2⟩ := hi.2.2.2.2.2.2.2.2.1
    refine ⟨fun v hv hh => ?_, fun x2 hx2 hh => ?_⟩
    · rw [n29] at hh
      rw [m 32 (by omega) (by omega) (by omega) (by omega) (by omega) (by omega), m 43 (by omega) (by omega) (by omega) (by omega) (by omega) (by omega), m 44 (by omega) (by omega) (by omega) (by omega) (by omega) (by omega), m 35 (by omega) (by omega) (by omega) (by omega) (by omega) (by omega), r39, r42, if_neg (by omega), if_neg (by omega)]
      exact z1 v hv hh
    · rw [n46] at hh
      rw [m 53 (by omega) (by omega) (by omega) (by omega) (by omega) (by omega), m 54 (by omega) (by omega) (by omega) (by omega) (by omega) (by omega), m 55 (by omega) (by omega) (by omega) (by omega) (by omega) (by omega)]
      exact z2 x2 hx2 hh
  · exact hi.2.2.2.2.2.2.2.2.2.mono (m 20 (by omega) (by omega) (by omega) (by omega) (by omega) (by omega)) (c 1 (by omega)) (c 4 (by omega))

