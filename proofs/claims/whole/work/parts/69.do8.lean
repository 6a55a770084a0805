/-! The class's answers are the reference's: new objects. -/
section NEW
variable {W9 : xWd} {d : Nat → Nat → Nat} {S S2 : cS} {M : mS}
/-- lists that may be changed, each with a row of its own -/
def lDj (W9 : xWd) (d : Nat → Nat → Nat) (S : cS) (M : mS) : Prop := (∀ k i, isL M k i → lCap W9 S (d k i)) ∧ ∀ k i k2 i2, isL M k i → isL M k2 i2 → cRf S (d k i) 1 = cRf S (d k2 i2) 1 → cRf S (d k i) 1 = wE W9 ∨ (k = k2 ∧ i = i2)
theorem rLst.dj (h : rLst W9 d S M) : lDj W9 d S M := ⟨fun _ _ z => h.isCap z, h.2.2.2⟩
theorem lDj.keep (h : lDj W9 d S M) (f : fr1 S S2) (hs : ∀ k i, isL M k i → lSame S S2 (d k i)) : lDj W9 d S2 M := by
  refine ⟨fun k i z => (h.1 k i z).mono f (hs k i z), fun k i k2 i2 z1 z2 z3 => ?_⟩
  rw [(hs k i z1).rd.2.1] at z3 ⊢
  rw [(hs k2 i2 z2).rd.2.1] at z3
  exact h.2 k i k2 i2 z1 z2 z3
theorem lDj.add (h : lDj W9 d S M) (hd : dInj d) {k0 i0 v : Nat} (hk : isL M k0 i0) (hA : lAdd W9 S (d k0 i0) v S2) (h30 : lCn S (d k0 i0) < 30) : lDj W9 d S2 M ∧ ∀ k i, isL M k i → ¬ (k = k0 ∧ i = i0) → lSame S S2 (d k i) := by
  have hs : ∀ k i, isL M k i → ¬ (k = k0 ∧ i = i0) → lSame S S2 (d k i) := fun k i z hne => by
    refine same_add hA (h.1 k i z) (fun y => hne (hd _ _ _ _ y)) ?_
    by_cases y : cRf S (d k i) 1 = cRf S (d k0 i0) 1
    · exact (h.2 k i k0 i0 z hk y).elim Or.inl (fun w => absurd w hne)
    · exact Or.inr y
  have f := fr1_add hA
  obtain ⟨n1, n2, n3, n4, n5, n6⟩ := lAdd_new hA (h.1 _ _ hk) h30
  have hfr : ∀ k i, isL M k i → ¬ (k = k0 ∧ i = i0) → cRf S2 (d k0 i0) 1 = cRf S (d k i) 1 → False := fun k i z hne y => by
    rcases n5 with w | w
    · rw [w] at y
      rcases h.2 k0 i0 k i hk z y with q | q
      · rw [w] at n6
        exact n6 q
      · exact hne ⟨q.1.symm, q.2.symm⟩
    · rw [y] at w n6
      rcases (h.1 k i z).2.2.2.2 with q | q
      · exact n6 q.1
      · exact live_of q.2.1 (by omega) w
  refine ⟨⟨fun k i z => ?_, fun k i k2 i2 z1 z2 z3 => ?_⟩, hs⟩
  · by_cases c : k = k0 ∧ i = i0
    · rw [c.1, c.2]; exact n1
    · exact (h.1 k i z).mono f (hs k i z c)
  · by_cases c : k = k0 ∧ i = i0
    · by_cases c2 : k2 = k0 ∧ i2 = i0
      · exact Or.inr ⟨c.1.trans c2.1.symm, c.2.trans c2.2.symm⟩
      · rw [(hs k2 i2 z2 c2).rd.2.1, c.1, c.2] at z3
        exact (hfr k2 i2 z2 c2 z3).elim
    · rw [(hs k i z1 c).rd.2.1] at z3 ⊢
      by_cases c2 : k2 = k0 ∧ i2 = i0
      · rw [c2.1, c2.2] at z3
        exact (hfr k i z1 c z3.symm).elim
      · rw [(hs k2 i2 z2 c2).rd.2.1] at z3
        exact h.2 k i k2 i2 z1 z2 z3
theorem rPg.fr {d2 : Nat → Nat → Nat} {np N : Nat} (h : rPg d S np N) (f : fr1 S S2) (e9 : d2 9 2 = d 9 2) (e11 : ∀ j, j < np → d2 11 j = d 11 j) (e12 : ∀ j, j < np → d2 12 j = d 12 j) : rPg d2 S2 np N ∧ (∀ j, j < np → pU S2 d2 j = pU S d j) ∧ ∀ e g w, lq d2 S2 e g w np = lq d S e g w np := by
  obtain ⟨⟨a1, a2, a3, a4⟩, a5, a6⟩ := h
  have l9 := live_of a1 (by omega)
  have hU : ∀ j, j < np → pU S2 d2 j = pU S d j := fun j hj => by
    unfold pU
    rw [e11 j hj, f.2.1 _ 401 (by omega) (live_of (a6 j hj).1 (by omega))]
  refine ⟨⟨⟨?_, ?_, ?_, ?_⟩, a5, fun j hj => ?_⟩, hU, fun e g w => lq_same np (fun j hj => ⟨hU j hj, ?_⟩)⟩
  · rw [e9, f.1 _ l9]; exact a1
  · rw [e9, f.2.2.1 _ 700 (by omega) l9, e11 0 a5]; exact a2
  · rw [e9, f.2.2.1 _ 701 (by omega) l9, e11 (np - 1) (by omega)]; exact a3
  · rw [e9, f.2.1 _ 702 (by omega) l9]; exact a4
  · obtain ⟨b1, b2, b3, b4, b5, b6⟩ := a6 j hj
    have l1 := live_of b1 (by omega)
    have l2 := live_of b3 (by omega)
    rw [e11 j hj, e12 j hj, hU j hj, f.1 _ l1, f.2.2.1 _ 400 (by omega) l1, f.1 _ l2, f.2.2.2.1 _ l2, f.2.1 _ 401 (by omega) l1, f.2.2.1 _ 402 (by omega) l1]
    refine ⟨b1, b2, b3, b4, b5, ?_⟩
    by_cases c : j + 1 < np
    · rw [if_pos c, e11 _ c]
      rw [if_pos c] at b6
      exact b6
    · rw [if_neg c]
      rw [if_neg c] at b6
      exact b6
  · rw [e12 j hj, f.2.2.2.2 _ (live_of (a6 j hj).2.2.1 (by omega))]
end NEW

def mCon (M : mS) (k f t u l r : Int32) : mS := mSet (mAst (mAst (mAst (mAst (mAst (mAst M 47 (nCo M) k) 48 (nCo M) f) 49 (nCo M) t) 50 (nCo M) u) 51 (nCo M) l) 52 (nCo M) r) 46 (M.1 46 + 1)
theorem R0_con {W9 : xWd} {d : Nat → Nat → Nat} {S S2 : cS} {M : mS} {q : Nat} {k f t u l r x : Int32} (hd : dInj d) (hR : R0 W9 d S M) (hi : iAll M) (hn : nCo M < 12) (hst : cK S (d 9 2) = 8) (hq : cDead S q) (hf : vp_in f 8) (ht : vp_in t 8) (hk : 0 ≤ k ∧ k ≤ 2) (hl : 0 ≤ l ∧ l ≤ 5000) (hA : lAdd W9 (cSetI (cCon S q (nI (nCo M)) k f t u l r) (d 6 3) 0 x) (d 6 3) q S2) : R0 W9 (dSw d 3 (nCo M) q) S2 (mCon M k f t u l r) ∧ iAll (mCon M k f t u l r) ∧ fr1 S S2 := by
  generalize hn0 : nCo M = n at *
  have hlv := fun k i (z : us M k i) => R0_live hR z
  have hu : ∀ k i, us M k i → dSw d 3 n q k i = d k i := fun k i z => dSw_ne (fun y => by
    obtain ⟨rfl, rfl⟩ := y
    rcases z with ⟨y, _⟩ | ⟨y, _⟩ | ⟨y, _⟩ | ⟨_, y⟩ | ⟨y, _⟩ | ⟨y, _⟩ | ⟨y, _⟩ | ⟨y, _⟩ <;> omega) (live_ne (hlv k i z) hq)
  have h92 : dSw d 3 n q 9 2 = d 9 2 := dSw_ne (by omega) (live_ne (live_of hst (by omega)) hq)
  have hd2 := dSw_inj hd 3 n q
  have hR2 := R0_dl hR hi hu h92
  have h63 : dSw d 3 n q 6 3 = d 6 3 := hu _ _ (us6 (by omega))
  have hqn : dSw d 3 n q 3 n = q := dSw_at
  rw [← h63] at hA
  generalize hdd : dSw d 3 n q = e at *
  have f1 : fr1 S (cSetI (cCon S q (nI n) k f t u l r) (e 6 3) 0 x) := (cCon_fr hq).sI2 (by omega)
  have f2 := fr1_add hA
  have ff := f1.trans f2
  have hsm : ∀ k i, us M k i → sm S S2 (e k i) := fun k i z => ff.sm (R0_live hR2 z)
  have hq4 : cK (cSetI (cCon S q (nI n) k f t u l r) (e 6 3) 0 x) q = 4 := by rw [cK_setI]; exact cCon_K
  have lq4 := live_of hq4 (by omega)
  have hqi : ∀ g, 2 < g → cFi S2 q g = cFi (cCon S q (nI n) k f t u l r) q g := fun g hg => by rw [f2.2.1 q g hg lq4, cFi_setI, if_neg (fun z => by omega)]
  have hqk : cK S2 q = 4 := (f2.1 q lq4).trans hq4
  have hdj1 : lDj W9 e (cSetI (cCon S q (nI n) k f t u l r) (e 6 3) 0 x) M := (rLst.dj hR2.2.2.2.2.2.2.2.2.2.2).keep f1 (fun k i z => (cCon_same ((rLst.dj hR2.2.2.2.2.2.2.2.2.2.2).1 k i z).1 hq).trans same_m)
  have hs1 : ∀ k2 i2, isL M k2 i2 → lSame S (cSetI (cCon S q (nI n) k f t u l r) (e 6 3) 0 x) (e k2 i2) := fun k i z => (cCon_same ((rLst.dj hR2.2.2.2.2.2.2.2.2.2.2).1 k i z).1 hq).trans same_m
  have hL63 : isL M 6 3 := Or.inl ⟨rfl, by omega⟩
  obtain ⟨⟨l0, l1, l2, l3, l4⟩, l5, l6, l7⟩ := hR2.2.2.2.2.2.2.2.2.2.2
  have hc3 : lCn (cSetI (cCon S q (nI n) k f t u l r) (e 6 3) 0 x) (e 6 3) = n := by rw [(hs1 6 3 hL63).rd.1, l3.2.1, hn0]
  obtain ⟨hdj2, hs2⟩ := hdj1.add hd2 hL63 hA (by rw [hc3]; omega)
  obtain ⟨n1, n2, n3, n4, -, -⟩ := lAdd_new hA (hdj1.1 _ _ hL63) (by rw [hc3]; omega)
  rw [hc3] at n2 n3 n4
  have hs : ∀ k i, isL M k i → ¬ (k = 6 ∧ i = 3) → lSame S S2 (e k i) := fun k i z hne => (hs1 k i z).trans (hs2 k i z hne)
  have e46 : M.1 46 = nI n := by rw [hi.1.2.2.1, hn0]
  generalize hM2 : mCon M k f t u l r = M2
  have m : ∀ k, k ≠ 47 → k ≠ 48 → k ≠ 49 → k ≠ 50 → k ≠ 51 → k ≠ 52 → M2.2 k = M.2 k := fun k a b c d e f => by rw [← hM2]; unfold mCon; show (mAst _ 52 _ _).2 k = _; rw [mAst_ne f, mAst_ne e, mAst_ne d, mAst_ne c, mAst_ne b, mAst_ne a]
  have c : ∀ k, k ≠ 46 → M2.1 k = M.1 k := fun k a => by rw [← hM2]; unfold mCon; rw [mSet_ne a]; rfl
  have n46 : nCo M2 = n + 1 := by
    unfold nCo
    rw [← hM2]
    unfold mCon
    rw [mSet_eq, e46, nI1, ix_nI (by omega)]
  have n22 : nBg M2 = nBg M := by unfold nBg; rw [c 22 (by omega)]
  have n29 : nBt M2 = nBt M := by unfold nBt; rw [c 29 (by omega)]
  have row : ∀ y, M2.2 47 y = (if y = n then k else M.2 47 y) ∧ M2.2 48 y = (if y = n then f else M.2 48 y) ∧ M2.2 49 y = (if y = n then t else M.2 49 y) ∧ M2.2 50 y = (if y = n then u else M.2 50 y) ∧ M2.2 51 y = (if y = n then l else M.2 51 y) ∧ M2.2 52 y = (if y = n then r else M.2 52 y) := fun y => by
    rw [← hM2]
    unfold mCon
    rw [hn0]
    simp only [mSet_2, mAst_2, Nat.reduceEqDiff, false_and, true_and, if_false]
  have b24 := m 24 (by omega) (by omega) (by omega) (by omega) (by omega) (by omega)
  have b25 := m 25 (by omega) (by omega) (by omega) (by omega) (by omega) (by omega)
  have hin : ∀ y, mInB M2 y (nBg M2) = mInB M y (nBg M) := fun y => by rw [n22, mInB_eq b24 b25]
  have hb22 := hi.1.2.1.2
  have hz := hi.2.2.2.2.2.2.2.2.1.2 n hn (by rw [hn0]; omega)
  refine ⟨⟨?_, ?_, ?_, ?_, ?_, ?_, ?_, ?_, ?_, ?_, ?_⟩, ⟨?_, ?_, ?_, ?_, ?_, ?_, ?_, ?_, ?_, ?_⟩, ff⟩
  · exact hR2.1.mono (fun z w => hsm _ _ (us0 w)) (m 5 (by omega) (by omega) (by omega) (by omega) (by omega) (by omega)) (m 6 (by omega) (by omega) (by omega) (by omega) (by omega) (by omega)) (m 7 (by omega) (by omega) (by omega) (by omega) (by omega) (by omega)) (m 8 (by omega) (by omega) (by omega) (by omega) (by omega) (by omega)) (m 9 (by omega) (by omega) (by omega) (by omega) (by omega) (by omega)) (m 10 (by omega) (by omega) (by omega) (by omega) (by omega) (by omega)) (m 11 (by omega) (by omega) (by omega) (by omega) (by omega) (by omega)) (m 12 (by omega) (by omega) (by omega) (by omega) (by omega) (by omega)) (m 13 (by omega) (by omega) (by omega) (by omega) (by omega) (by omega)) (m 14 (by omega) (by omega) (by omega) (by omega) (by omega) (by omega)) (m 15 (by omega) (by omega) (by omega) (by omega) (by omega) (by omega)) (m 16 (by omega) (by omega) (by omega) (by omega) (by omega) (by omega)) 
  · exact hR2.2.1.mono (fun z w => hsm _ _ (us1 w)) (m 17 (by omega) (by omega) (by omega) (by omega) (by omega) (by omega)) 
  · exact hR2.2.2.1.mono (fun z w => hsm _ _ (us5 w)) (m 40 (by omega) (by omega) (by omega) (by omega) (by omega) (by omega)) (c 29 (by omega))
  · exact hR2.2.2.2.1.mono (fun z w => hsm _ _ (us2 w)) (m 23 (by omega) (by omega) (by omega) (by omega) (by omega) (by omega)) (m 24 (by omega) (by omega) (by omega) (by omega) (by omega) (by omega)) (m 25 (by omega) (by omega) (by omega) (by omega) (by omega) (by omega)) (m 26 (by omega) (by omega) (by omega) (by omega) (by omega) (by omega)) (m 27 (by omega) (by omega) (by omega) (by omega) (by omega) (by omega)) (m 28 (by omega) (by omega) (by omega) (by omega) (by omega) (by omega)) (c 22 (by omega))
  · intro y hy
    rw [n46] at hy
    rw [hin]
    obtain ⟨r47, r48, r49, r50, r51, r52⟩ := row y
    have m53 := m 53 (by omega) (by omega) (by omega) (by omega) (by omega) (by omega)
    have m54 := m 54 (by omega) (by omega) (by omega) (by omega) (by omega) (by omega)
    have m55 := m 55 (by omega) (by omega) (by omega) (by omega) (by omega) (by omega)
    rw [r47, r48, r49, r50, r51, r52, m53, m54, m55]
    by_cases w : y = n
    · subst w
      have h0 : mInB M (nI y) (nBg M) = 0 := by
        have : ∀ j, j ≤ nBg M → mInB M (nI y) j = 0 := by
          intro j
          induction j with
          | zero => intro _; rfl
          | succ j ih =>
            intro hj
            show mInB M (nI y) j + (if M.2 25 j = nI y then M.2 24 j else 0) = 0
            rw [ih (by omega), if_neg]
            · rfl
            · rcases (hi.2.2.2.2.1 j (by omega)).2.1 with ⟨-, z⟩ | ⟨-, c2, hc2, z⟩
              · rw [z]; exact fun q => nI_m1 (show y < 1000 by omega) q.symm
              · rw [z, eq_nI (by omega) (by omega)]; omega
        exact this _ (Nat.le_refl _)
      rw [hqn, hqk, h0, hz.1, hz.2.1, hz.2.2, hqi 300 (by omega), hqi 301 (by omega), hqi 302 (by omega), hqi 303 (by omega), hqi 304 (by omega), hqi 305 (by omega), hqi 306 (by omega), hqi 307 (by omega), hqi 308 (by omega), hqi 309 (by omega), hqi 310 (by omega)]
      unfold cCon
      simp only [cFi_setI, cFi_newO, true_and, Nat.reduceEqDiff, if_true, if_false, Int32.sub_zero]
    · have hy2 : y < nCo M := by omega
      obtain ⟨h0, h300, h301, h302, h303, h304, h305, h306, h307, h308, h309, h310⟩ := hR2.2.2.2.2.1 y hy2
      have k := hsm 3 y (us3 hy2)
      rw [if_neg w, if_neg w, if_neg w, if_neg w, if_neg w, if_neg w]
      exact ⟨k.1.trans h0, (k.2.1 300 (by omega)).trans h300, (k.2.1 301 (by omega)).trans h301, (k.2.1 302 (by omega)).trans h302, (k.2.1 303 (by omega)).trans h303, (k.2.1 304 (by omega)).trans h304, (k.2.1 305 (by omega)).trans h305, (k.2.1 306 (by omega)).trans h306, (k.2.1 307 (by omega)).trans h307, (k.2.1 308 (by omega)).trans h308, (k.2.1 309 (by omega)).trans h309, (k.2.1 310 (by omega)).trans h310⟩
  · exact hR2.2.2.2.2.2.1.mono (fun z w => hsm _ _ (us4 w)) (m 30 (by omega) (by omega) (by omega) (by omega) (by omega) (by omega)) (m 31 (by omega) (by omega) (by omega) (by omega) (by omega) (by omega)) (m 32 (by omega) (by omega) (by omega) (by omega) (by omega) (by omega)) (m 33 (by omega) (by omega) (by omega) (by omega) (by omega) (by omega)) (m 34 (by omega) (by omega) (by omega) (by omega) (by omega) (by omega)) (m 35 (by omega) (by omega) (by omega) (by omega) (by omega) (by omega)) (m 36 (by omega) (by omega) (by omega) (by omega) (by omega) (by omega)) (m 37 (by omega) (by omega) (by omega) (by omega) (by omega) (by omega)) (m 38 (by omega) (by omega) (by omega) (by omega) (by omega) (by omega)) (m 39 (by omega) (by omega) (by omega) (by omega) (by omega) (by omega)) (m 43 (by omega) (by omega) (by omega) (by omega) (by omega) (by omega)) (c 29 (by omega))
  · exact hR2.2.2.2.2.2.2.1.mono (fun z w => hsm _ _ (us4 w)) (m 45 (by omega) (by omega) (by omega) (by omega) (by omega) (by omega)) (c 29 (by omega))
  · exact hR2.2.2.2.2.2.2.2.1.mono (fun z w => hsm _ _ (us10 w)) (m 44 (by omega) (by omega) (by omega) (by omega) (by omega) (by omega)) (c 29 (by omega))
  · exact hR2.2.2.2.2.2.2.2.2.1.mono (hsm 9 0 (us9 (by omega)))  (c 1 (by omega)) (c 2 (by omega)) (c 3 (by omega)) (c 4 (by omega)) (c 56 (by omega)) (c 57 (by omega)) (c 58 (by omega))
  · exact hR2.2.2.2.2.2.2.2.2.2.1.mono (hsm 9 1 (us9 (by omega))) (m 20 (by omega) (by omega) (by omega) (by omega) (by omega) (by omega)) (m 21 (by omega) (by omega) (by omega) (by omega) (by omega) (by omega)) (c 1 (by omega))
  · refine ⟨⟨?_, ?_, ?_, ?_, ?_⟩, fun x2 hx2 => ?_, fun w hw => ?_, fun k1 i1 k2 i2 z1 z2 z3 => ?_⟩
    · exact l0.mono ff (hs 6 0 (Or.inl ⟨rfl, by omega⟩) (by omega))
    · exact l1.mono ff (hs 6 1 (Or.inl ⟨rfl, by omega⟩) (by omega))
    · rw [n22]; exact l2.mono ff (hs 6 2 (Or.inl ⟨rfl, by omega⟩) (by omega))
    · rw [n46]
      refine ⟨n1, n2, fun j hj => ?_⟩
      by_cases w : j = n
      · rw [w, n4, hqn]
      · rw [n3 j (by omega), (hs1 6 3 hL63).rd.2.2]
        exact l3.2.2 j (by omega)
    · rw [n29]; exact l4.mono ff (hs 6 4 (Or.inl ⟨rfl, by omega⟩) (by omega))
    · unfold nT
      rw [m 18 (by omega) (by omega) (by omega) (by omega) (by omega) (by omega), m 19 (by omega) (by omega) (by omega) (by omega) (by omega) (by omega)]
      exact (l5 x2 hx2).mono ff (hs 7 x2 (Or.inr (Or.inl ⟨rfl, hx2⟩)) (by omega))
    · rw [n29] at hw
      unfold nW
      rw [m 42 (by omega) (by omega) (by omega) (by omega) (by omega) (by omega), m 41 (by omega) (by omega) (by omega) (by omega) (by omega) (by omega)]
      exact (l6 w hw).mono ff (hs 8 w (Or.inr (Or.inr ⟨rfl, hw⟩)) (by omega))
    · unfold isL at z1 z2
      rw [n29] at z1 z2
      exact hdj2.2 k1 i1 k2 i2 z1 z2 z3
  · obtain ⟨⟨i1, i2⟩, ⟨i3, i4⟩, i5, i6⟩ := hi.1
    refine ⟨⟨by rw [c 29 (by omega), n29]; exact i1, by rw [n29]; exact i2⟩, ⟨by rw [c 22 (by omega), n22]; exact i3, by rw [n22]; exact i4⟩, ?_, by omega⟩
    rw [n46, ← hM2]
    unfold mCon
    rw [mSet_eq, e46, nI1]
  · exact hi.2.1.mono (m 9 (by omega) (by omega) (by omega) (by omega) (by omega) (by omega)) (m 7 (by omega) (by omega) (by omega) (by omega) (by omega) (by omega)) (m 5 (by omega) (by omega) (by omega) (by omega) (by omega) (by omega)) (m 15 (by omega) (by omega) (by omega) (by omega) (by omega) (by omega)) 
  · exact hi.2.2.1.mono (m 18 (by omega) (by omega) (by omega) (by omega) (by omega) (by omega)) (m 17 (by omega) (by omega) (by omega) (by omega) (by omega) (by omega)) (m 19 (by omega) (by omega) (by omega) (by omega) (by omega) (by omega)) (m 28 (by omega) (by omega) (by omega) (by omega) (by omega) (by omega)) (m 27 (by omega) (by omega) (by omega) (by omega) (by omega) (by omega)) (c 22 (by omega))
  · exact hi.2.2.2.1.mono (m 42 (by omega) (by omega) (by omega) (by omega) (by omega) (by omega)) (m 40 (by omega) (by omega) (by omega) (by omega) (by omega) (by omega)) (m 41 (by omega) (by omega) (by omega) (by omega) (by omega) (by omega)) (m 28 (by omega) (by omega) (by omega) (by omega) (by omega) (by omega)) (c 29 (by omega)) (c 22 (by omega))
  · intro g hg
    rw [n22] at hg
    obtain ⟨i1, i2, i3⟩ := hi.2.2.2.2.1 g hg
    have eT : ∀ t, nT M2 t = nT M t := fun t => by unfold nT; rw [m 18 (by omega) (by omega) (by omega) (by omega) (by omega) (by omega)]
    have eW : ∀ t, nW M2 t = nW M t := fun t => by unfold nW; rw [m 42 (by omega) (by omega) (by omega) (by omega) (by omega) (by omega)]
    simp only [m 28 (by omega) (by omega) (by omega) (by omega) (by omega) (by omega), m 27 (by omega) (by omega) (by omega) (by omega) (by omega) (by omega), m 19 (by omega) (by omega) (by omega) (by omega) (by omega) (by omega), m 41 (by omega) (by omega) (by omega) (by omega) (by omega) (by omega), m 23 (by omega) (by omega) (by omega) (by omega) (by omega) (by omega), b24, b25, eT, eW, n29, n46]
    exact ⟨i1, i2.imp id (fun z => ⟨z.1, z.2.imp (fun c2 y => ⟨by omega, y.2⟩)⟩), i3⟩
  · intro y hy
    rw [n46] at hy
    obtain ⟨r47, r48, r49, r50, r51, r52⟩ := row y
    rw [r47, r48, r49, r51]
    by_cases w : y = n
    · rw [if_pos w, if_pos w, if_pos w, if_pos w]
      exact ⟨hk, hf, ht, hl⟩
    · rw [if_neg w, if_neg w, if_neg w, if_neg w]
      exact hi.2.2.2.2.2.1 y (by omega)
  · exact hi.2.2.2.2.2.2.1.mono (m 37 (by omega) (by omega) (by omega) (by omega) (by omega) (by omega)) (m 35 (by omega) (by omega) (by omega) (by omega) (by omega) (by omega)) (m 34 (by omega) (by omega) (by omega) (by omega) (by omega) (by omega)) (m 33 (by omega) (by omega) (by omega) (by omega) (by omega) (by omega)) (m 36 (by omega) (by omega) (by omega) (by omega) (by omega) (by omega)) (c 29 (by omega))
  · exact hi.2.2.2.2.2.2.2.1.mono (m 45 (by omega) (by omega) (by omega) (by omega) (by omega) (by omega)) (c 29 (by omega))
  · obtain ⟨z1, z2⟩ := hi.2.2.2.2.2.2.2.2.1
    refine ⟨fun w hw hh => ?_, fun x2 hx2 hh => ?_⟩
    · rw [n29] at hh
      rw [m 32 (by omega) (by omega) (by omega) (by omega) (by omega) (by omega), m 39 (by omega) (by omega) (by omega) (by omega) (by omega) (by omega), m 42 (by omega) (by omega) (by omega) (by omega) (by omega) (by omega), m 43 (by omega) (by omega) (by omega) (by omega) (by omega) (by omega), m 44 (by omega) (by omega) (by omega) (by omega) (by omega) (by omega), m 35 (by omega) (by omega) (by omega) (by omega) (by omega) (by omega)]
      exact z1 w hw hh
    · rw [n46] at hh
      rw [m 53 (by omega) (by omega) (by omega) (by omega) (by omega) (by omega), m 54 (by omega) (by omega) (by omega) (by omega) (by omega) (by omega), m 55 (by omega) (by omega) (by omega) (by omega) (by omega) (by omega)]
      exact z2 x2 hx2 (by omega)
  · exact hi.2.2.2.2.2.2.2.2.2.mono (m 20 (by omega) (by omega) (by omega) (by omega) (by omega) (by omega)) (c 1 (by omega)) (c 4 (by omega))

theorem RRd_new {W9 : xWd} {B a : Nat} {d d2 : Nat → Nat → Nat} {S S2 : cS} {M M2 : mS} {np N : Nat} (h : RRd W9 B a d S M np N) (hd2 : dInj d2) (e90 : d2 9 0 = d 9 0) (hR : R0 W9 d2 S2 M2) (hi : iAll M2) (hw : ways M2 (nBt M) = ways M (nBt M)) (f : fr1 S S2) (e9 : d2 9 2 = d 9 2) (e11 : ∀ j, j < np → d2 11 j = d 11 j) (e12 : ∀ j, j < np → d2 12 j = d 12 j) (c22 : M2.1 22 = M.1 22) (c29 : M2.1 29 = M.1 29) (m27 : M2.2 27 = M.2 27) (m28 : M2.2 28 = M.2 28) (m33 : M2.2 33 = M.2 33) (m34 : M2.2 34 = M.2 34) : RRd W9 B a d2 S2 M2 np N := by
  obtain ⟨hd, ha, -, -, hp, hl, hN, hB⟩ := h
  obtain ⟨hp1, -, hq1⟩ := hp.fr f e9 e11 e12
  have n22 : nBg M2 = nBg M := by unfold nBg; rw [c22]
  have n29 : nBt M2 = nBt M := by unfold nBt; rw [c29]
  refine ⟨hd2, e90.trans ha, hi, hR, hp1, ⟨fun g hg => ?_, fun w hw => ?_⟩, by rw [n29, hw]; exact hN, hB⟩
  · rw [n22] at hg
    rw [hq1, m27, m28]
    exact hl.1 g hg
  · rw [n29] at hw
    rw [hq1, m33, m34]
    exact hl.2 w hw

theorem Q_contract {W9 : xWd} {B a : Nat} {S : cS} {M : mS} {k : Int32} {f : Int32} {t : Int32} {u : Int32} {l : Int32} {r : Int32} {K : xRes → cS → Prop} (h : RR W9 B a S M) (hk : ∀ r9 S2, ans [eB, eA, eS] W9 B a (oContract M k f t u l r) r9 S2 → K r9 S2) : (spX7_contract W9).2 [.ref a, .int k, .int f, .int t, .int u, .int l, .int r] S K := by
  have h0 := RR_set0 (z := 0) h
  have h00 := h0
  obtain ⟨d, np, N, h0d⟩ := h00
  have h0e := h0d
  obtain ⟨hd, rfl, hi, hR, hp, hl, hN, hB⟩ := h0e
  have g0 := hR.2.2.2.2.2.2.2.2.1.1
  obtain ⟨g7, g8, g9, g10, g11, g12, g13⟩ := hR.2.2.2.2.2.2.2.2.1.2.2
  have e29 : M.1 29 = nI (nBt M) := hi.1.1.1
  have e22 : M.1 22 = nI (nBg M) := hi.1.2.1.1
  have e46 : M.1 46 = nI (nCo M) := hi.1.2.2.1
  have b29 : nBt M ≤ 6 := hi.1.1.2
  have b22 : nBg M ≤ 24 := hi.1.2.1.2
  have b46 : nCo M ≤ 12 := hi.1.2.2.2
  have n29 : nBt (mSet M 0 0) = nBt M := rfl
  have n22 : nBg (mSet M 0 0) = nBg M := rfl
  have n46 : nCo (mSet M 0 0) = nCo M := rfl
  obtain ⟨s1, s2, s3, s4, s5, s6⟩ := R0_cons hR
  rw [n46] at s4 s5 s6
  rw [spwX7_contract, s2, s5]
  have hcap := rLst.isCap hR.2.2.2.2.2.2.2.2.2.2 (show isL (mSet M 0 0) 6 3 from Or.inl ⟨rfl, by omega⟩)
  have e1 : ((0 ≤ f ∧ f < 8) ∧ 0 ≤ t ∧ t < 8) = ((0 ≤ f ∧ f ≤ 7) ∧ 0 ≤ t ∧ t ≤ 7) := by rw [idx7, idx7]; rfl
  have e2 : ((0 ≤ k ∧ k ≤ 2) ∧ ¬ f = t ∧ (1 ≤ u ∧ u ≤ 99) ∧ (0 ≤ l ∧ l ≤ 5000) ∧ 0 ≤ r ∧ r ≤ 300) ↔ ((0 ≤ k ∧ k ≤ 2) ∧ (1 ≤ u ∧ u ≤ 99) ∧ (0 ≤ l ∧ l ≤ 5000) ∧ (0 ≤ r ∧ r ≤ 300) ∧ f ≠ t) := ⟨fun ⟨a, b, c, d, e⟩ => ⟨a, c, d, e, b⟩, fun ⟨a, c, d, e, b⟩ => ⟨a, b, c, d, e⟩⟩
  have e3 : (nI (nCo M) < 12) = ¬ (M.1 46 = 12) := by
    rw [e46, show (12 : Int32) = nI 12 from rfl, lt_nI (by omega) (by omega), eq_nI (by omega) (by omega)]
    exact propext ⟨fun z => by omega, fun z => by omega⟩
  refine ⟨g0, ⟨s1, s3⟩, hcap, fun q => hk _ _ (ans_e h (z := 1) ?_ (by decide) rfl), fun v => ⟨fun q => hk _ _ (ans_e h (z := 2) ?_ (by decide) rfl), fun v2 => ⟨fun q => hk _ _ (ans_e h (z := 3) ?_ (by decide) rfl), fun v3 q hq x S2 hA => ?_⟩⟩⟩
  · unfold oContract
    rw [if_pos (by rw [← e1]; exact q)]
  · unfold oContract
    rw [if_neg (not_not_intro (by rw [← e1]; exact v)), if_pos (fun z => q (e2.mpr z))]
  · unfold oContract
    rw [if_neg (not_not_intro (by rw [← e1]; exact v)), if_neg (not_not_intro (e2.mp v2)), if_pos (by rw [e3] at q; exact Classical.not_not.mp q)]
  · have ho' : oContract M k f t u l r = (M.1 46 + 1 - 1, mCon (mSet M 0 0) k f t u l r) := by
      unfold oContract
      rw [if_neg (not_not_intro (by rw [← e1]; exact v)), if_neg (not_not_intro (e2.mp v2)), if_neg (by rw [← e3]; exact v3)]
      rfl
    have hv : ∀ y : Int32, 0 ≤ y ∧ y < 8 → vp_in y 8 := fun y hy => by
      rw [show (8 : Int32) = nI 8 from rfl, idx (by omega)] at hy
      obtain ⟨j, hj, rfl⟩ := hy
      exact xin_nI hj (by omega)
    have hn12 : nCo (mSet M 0 0) < 12 := by
      rw [show (12 : Int32) = nI 12 from rfl, lt_nI (by omega) (by omega)] at v3
      exact v3
    obtain ⟨hR2, hi2, ff⟩ := R0_con hd hR hi hn12 hp.1.1 hq (hv f v.1) (hv t v.2) v2.1 v2.2.2.2.1 hA
    have hlv : ∀ k2 i2, ¬ cDead S (d k2 i2) → ¬ (k2 = 3 ∧ i2 = nCo (mSet M 0 0)) → dSw d 3 (nCo (mSet M 0 0)) q k2 i2 = d k2 i2 := fun k2 i2 a b => dSw_ne b (live_ne a hq)
    have mr : ∀ k2, k2 ≠ 47 → k2 ≠ 48 → k2 ≠ 49 → k2 ≠ 50 → k2 ≠ 51 → k2 ≠ 52 → (mCon (mSet M 0 0) k f t u l r).2 k2 = (mSet M 0 0).2 k2 := fun k2 a b c d e g => by unfold mCon; show (mAst _ 52 _ _).2 k2 = _; rw [mAst_ne g, mAst_ne e, mAst_ne d, mAst_ne c, mAst_ne b, mAst_ne a]
    have hE : RR W9 B (d 9 0) S2 (mCon (mSet M 0 0) k f t u l r) := ⟨_, np, N, RRd_new h0d (dSw_inj hd 3 _ q) (hlv 9 0 (R0_live hR (us9 (by omega))) (by omega)) hR2 hi2 (ways_same _ (fun v _ => way_of (by rw [mr 34 (by omega) (by omega) (by omega) (by omega) (by omega) (by omega)]) (by rw [mr 37 (by omega) (by omega) (by omega) (by omega) (by omega) (by omega)]) (by rw [mr 33 (by omega) (by omega) (by omega) (by omega) (by omega) (by omega)]) (by rw [mr 35 (by omega) (by omega) (by omega) (by omega) (by omega) (by omega)]))) ff (hlv 9 2 (live_of hp.1.1 (by omega)) (by omega)) (fun j hj => hlv 11 j (live_of (hp.2.2 j hj).1 (by omega)) (by omega)) (fun j hj => hlv 12 j (live_of (hp.2.2 j hj).2.2.1 (by omega)) (by omega)) rfl rfl (mr 27 (by omega) (by omega) (by omega) (by omega) (by omega) (by omega)) (mr 28 (by omega) (by omega) (by omega) (by omega) (by omega) (by omega)) (mr 33 (by omega) (by omega) (by omega) (by omega) (by omega) (by omega)) (mr 34 (by omega) (by omega) (by omega) (by omega) (by omega) (by omega))⟩
    refine hk _ _ (ans_1 hE ho' rfl ?_)
    rw [e46]
    exact (Int32.add_sub_cancel _ _).symm

