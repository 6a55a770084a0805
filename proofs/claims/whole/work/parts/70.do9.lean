/-! The class's answers are the reference's: a new barge. -/
def mBrg (M : mS) (y : Int32) (s : Nat) : mS := mSet (mTies (mAst (mAst (mAst (mAst M 23 (nBg M) y) 24 (nBg M) 0) 25 (nBg M) (-1)) 26 (nBg M) (-1)) (nI (nBg M)) (nI s)) 22 (M.1 22 + 1)
theorem mBrg_v {M : mS} {y : Int32} {s n j : Nat} (hn : nBg M = n) (h1 : n < 1000) (h2 : s < 16) (h3 : M.2 18 s = nI j) (h4 : j < 5) : (∀ k, k ≠ 23 → k ≠ 24 → k ≠ 25 → k ≠ 26 → k ≠ 27 → k ≠ 28 → k ≠ 19 → k ≠ 18 → (mBrg M y s).2 k = M.2 k) ∧ (∀ g, (mBrg M y s).2 23 g = (if g = n then y else M.2 23 g) ∧ (mBrg M y s).2 24 g = (if g = n then 0 else M.2 24 g) ∧ (mBrg M y s).2 25 g = (if g = n then -1 else M.2 25 g) ∧ (mBrg M y s).2 26 g = (if g = n then -1 else M.2 26 g) ∧ (mBrg M y s).2 27 g = (if g = n then nI s else M.2 27 g) ∧ (mBrg M y s).2 28 g = (if g = n then -1 else M.2 28 g)) ∧ (∀ x, (mBrg M y s).2 19 x = if x = 5 * s + j then nI n else M.2 19 x) ∧ (∀ t, (mBrg M y s).2 18 t = if t = s then nI (j + 1) else M.2 18 t) := by
  unfold mBrg mTies
  rw [hn, ix_nI h1, ix_nI (show s < 1000 by omega)]
  simp only [mAst_ne (show (18 : Nat) ≠ 23 by omega), mAst_ne (show (18 : Nat) ≠ 24 by omega), mAst_ne (show (18 : Nat) ≠ 25 by omega), mAst_ne (show (18 : Nat) ≠ 26 by omega), h3]
  rw [m5_nI, add_nI, ix_nI (show 5 * s + j < 1000 by omega), nI1]
  refine ⟨fun k a b c d e f g h => ?_, fun g => ?_, fun x => ?_, fun t => ?_⟩
  · show (mAst _ 18 _ _).2 k = _
    rw [mAst_ne h, mAst_ne g, mAst_ne f, mAst_ne e, mAst_ne d, mAst_ne c, mAst_ne b, mAst_ne a]
  · simp only [mSet_2, mAst_2, Nat.reduceEqDiff, false_and, true_and, if_false]
  · simp only [mSet_2, mAst_2, Nat.reduceEqDiff, false_and, true_and, if_false]
  · simp only [mSet_2, mAst_2, Nat.reduceEqDiff, false_and, true_and, if_false]

theorem R0_bar {W9 : xWd} {d : Nat → Nat → Nat} {S S2 S3 : cS} {M : mS} {q s : Nat} {y x x3 : Int32} (hd : dInj d) (hR : R0 W9 d S M) (hi : iAll M) (hn : nBg M < 24) (hst : cK S (d 9 2) = 8) (hq : cDead S q) (hy : 0 ≤ y ∧ y ≤ 2) (hs16 : s < 16) (hroom : M.2 18 s < M.2 17 s) (hA : lAdd W9 (cSetI (cBar S q (nI (nBg M)) y (d 1 s)) (d 6 2) 0 x) (d 6 2) q S2) (hA3 : lAdd W9 (cSetI S2 (d 7 s) 0 x3) (d 7 s) q S3) : R0 W9 (dSw d 2 (nBg M) q) (cSetR S3 q 102 (some (d 1 s))) (mBrg M y s) ∧ iAll (mBrg M y s) ∧ fr1 S (cSetR S3 q 102 (some (d 1 s))) := by
  generalize hn0 : nBg M = n at *
  have hlv := fun k i (z : us M k i) => R0_live hR z
  have hu : ∀ k i, us M k i → dSw d 2 n q k i = d k i := fun k i z => dSw_ne (fun y => by
    obtain ⟨rfl, rfl⟩ := y
    rcases z with ⟨y, _⟩ | ⟨y, _⟩ | ⟨_, y⟩ | ⟨y, _⟩ | ⟨y, _⟩ | ⟨y, _⟩ | ⟨y, _⟩ | ⟨y, _⟩ <;> omega) (live_ne (hlv k i z) hq)
  have h92 : dSw d 2 n q 9 2 = d 9 2 := dSw_ne (by omega) (live_ne (live_of hst (by omega)) hq)
  have hd2 := dSw_inj hd 2 n q
  have hR2 := R0_dl hR hi hu h92
  have h62 : dSw d 2 n q 6 2 = d 6 2 := hu _ _ (us6 (by omega))
  have h7s : dSw d 2 n q 7 s = d 7 s := hu _ _ (us7 hs16)
  have h1s : dSw d 2 n q 1 s = d 1 s := hu _ _ (us1 hs16)
  have hqn : dSw d 2 n q 2 n = q := dSw_at
  rw [← h62, ← h1s] at hA
  rw [← h7s] at hA3
  rw [← h1s]
  generalize hdd : dSw d 2 n q = e at *
  have f1 : fr1 S (cSetI (cBar S q (nI n) y (e 1 s)) (e 6 2) 0 x) := (cBar_fr hq).sI2 (by omega)
  have f2 := fr1_add hA
  have f3 : fr1 S2 (cSetI S2 (e 7 s) 0 x3) := fr1_m (by omega)
  have f4 := fr1_add hA3
  have f14 := ((f1.trans f2).trans f3).trans f4
  have ff : fr1 S (cSetR S3 q 102 (some (e 1 s))) := f14.sR hq
  have hsm : ∀ k i, us M k i → sm S (cSetR S3 q 102 (some (e 1 s))) (e k i) := fun k i z => ff.sm (R0_live hR2 z)
  have hq2 : cK (cSetI (cBar S q (nI n) y (e 1 s)) (e 6 2) 0 x) q = 2 := by rw [cK_setI]; exact cBar_K
  have lq1 := live_of hq2 (by omega)
  have f24 := (f2.trans f3).trans f4
  have hqi : ∀ g, 2 < g → cFi S3 q g = cFi (cBar S q (nI n) y (e 1 s)) q g := fun g hg => by rw [f24.2.1 q g hg lq1, cFi_setI, if_neg (fun z => by omega)]
  have hqr : ∀ g, 2 < g → cFr S3 q g = cFr (cBar S q (nI n) y (e 1 s)) q g := fun g hg => by rw [f24.2.2.1 q g hg lq1]; rfl
  have hqk : cK S3 q = 2 := (f24.1 q lq1).trans hq2
  have hL := rLst.dj hR2.2.2.2.2.2.2.2.2.2.2
  have hs1 : ∀ k2 i2, isL M k2 i2 → lSame S (cSetI (cBar S q (nI n) y (e 1 s)) (e 6 2) 0 x) (e k2 i2) := fun k i z => (cBar_same (hL.1 k i z).1 hq).trans same_m
  have hdj1 := hL.keep f1 hs1
  have hL62 : isL M 6 2 := Or.inl ⟨rfl, by omega⟩
  have hL7s : isL M 7 s := Or.inr (Or.inl ⟨rfl, hs16⟩)
  obtain ⟨⟨l0, l1, l2, l3, l4⟩, l5, l6, l7⟩ := hR2.2.2.2.2.2.2.2.2.2.2
  have hc2 : lCn (cSetI (cBar S q (nI n) y (e 1 s)) (e 6 2) 0 x) (e 6 2) = n := by rw [(hs1 6 2 hL62).rd.1, l2.2.1, hn0]
  obtain ⟨hdj2, hs2⟩ := hdj1.add hd2 hL62 hA (by rw [hc2]; omega)
  obtain ⟨n1, n2, n3, n4, -, -⟩ := lAdd_new hA (hdj1.1 _ _ hL62) (by rw [hc2]; omega)
  rw [hc2] at n2 n3 n4
  have hs3 : ∀ k2 i2, isL M k2 i2 → lSame S2 (cSetI S2 (e 7 s) 0 x3) (e k2 i2) := fun k i z => same_m
  have hdj3 := hdj2.keep f3 hs3
  have h7c : lCn (cSetI S2 (e 7 s) 0 x3) (e 7 s) = nT M s := by
    rw [(hs3 7 s hL7s).rd.1, (hs2 7 s hL7s (by omega)).rd.1, (hs1 7 s hL7s).rd.1]
    exact (l5 s hs16).2.1
  have i18 := (hi.2.2.1 s hs16).1
  have hnT5 : nT M s < 5 := by
    obtain ⟨-, ⟨a1, a2⟩, -⟩ := hi.2.2.1 s hs16
    have z1 := Int32.lt_iff_toInt_lt.mp hroom
    have z2 := Int32.le_iff_toInt_le.mp a2
    rw [i18, nI_toInt (by have := iTie_n hi.2.2.1 hs16; omega)] at z1
    have e5 : (5 : Int32).toInt = 5 := by decide
    rw [e5] at z2
    omega
  generalize hj : nT M s = j at *
  obtain ⟨hdj4, hs4⟩ := hdj3.add hd2 hL7s hA3 (by rw [h7c]; omega)
  obtain ⟨t1, t2, t3, t4, -, -⟩ := lAdd_new hA3 (hdj3.1 _ _ hL7s) (by rw [h7c]; omega)
  rw [h7c] at t2 t3 t4
  have hsR : ∀ k2 i2, lSame S3 (cSetR S3 q 102 (some (e 1 s))) (e k2 i2) := fun k i => same_sR (Or.inl (by omega))
  have fR : fr1 S3 (cSetR S3 q 102 (some (e 1 s))) ∨ True := Or.inr trivial
  have hcap5 : ∀ L, lCap W9 S3 L → lCap W9 (cSetR S3 q 102 (some (e 1 s))) L := fun L ⟨c1, c2, c3, c4, c5⟩ => by
    have ec : lCn (cSetR S3 q 102 (some (e 1 s))) L = lCn S3 L := rfl
    have er : cRf (cSetR S3 q 102 (some (e 1 s))) L 1 = cRf S3 L 1 := by unfold cRf; rw [cFr_setR, if_neg (fun z => by omega)]
    refine ⟨c1, c2, c3, ?_, ?_⟩
    · rw [er, cFr_setR, if_neg (fun z => by omega)]; exact c4
    · rw [er, ec]; exact c5
  have hs5 : ∀ k i, isL M k i → ¬ (k = 6 ∧ i = 2) → ¬ (k = 7 ∧ i = s) → lSame S (cSetR S3 q 102 (some (e 1 s))) (e k i) := fun k i z h1 h2 => ((((hs1 k i z).trans (hs2 k i z h1)).trans (hs3 k i z)).trans (hs4 k i z h2)).trans (hsR k i)
  have e22 : M.1 22 = nI n := by rw [hi.1.2.1.1, hn0]
  obtain ⟨m, row, r19, r18⟩ := mBrg_v (M := M) (y := y) hn0 (show n < 1000 by omega) hs16 i18 hnT5
  have c : ∀ k, k ≠ 22 → (mBrg M y s).1 k = M.1 k := fun k a => by unfold mBrg; rw [mSet_ne a]; rfl
  have n22 : nBg (mBrg M y s) = n + 1 := by
    unfold nBg mBrg
    rw [mSet_eq, e22, nI1, ix_nI (by omega)]
  generalize hM2 : mBrg M y s = M2 at *
  have n46 : nCo M2 = nCo M := by unfold nCo; rw [c 46 (by omega)]
  have n29 : nBt M2 = nBt M := by unfold nBt; rw [c 29 (by omega)]
  have hb46 := hi.1.2.2.2
  have hb29 := hi.1.1.2
  have hin : ∀ z, ¬ z = -1 → mInB M2 z (nBg M2) = mInB M z (nBg M) := fun z hz => by
    rw [n22, hn0]
    have : ∀ i, i ≤ n → mInB M2 z i = mInB M z i := by
      intro i
      induction i with
      | zero => intro _; rfl
      | succ i ih =>
        intro hi2
        show mInB M2 z i + (if M2.2 25 i = z then M2.2 24 i else 0) = mInB M z i + (if M.2 25 i = z then M.2 24 i else 0)
        obtain ⟨-, a24, a25, -⟩ := row i
        rw [ih (by omega), a24, a25, if_neg (show ¬ i = n by omega), if_neg (show ¬ i = n by omega)]
    show mInB M2 z n + (if M2.2 25 n = z then M2.2 24 n else 0) = mInB M z n
    obtain ⟨-, a24, a25, -⟩ := row n
    rw [this n (Nat.le_refl _), a25, if_pos rfl, if_neg (fun w => hz w.symm), Int32.add_zero]
  have nT2 : ∀ t, nT M2 t = if t = s then j + 1 else nT M t := fun t => by
    unfold nT
    rw [r18]
    by_cases w : t = s
    · rw [if_pos w, if_pos w, ix_nI (by omega)]
    · rw [if_neg w, if_neg w]
  have nW2 : ∀ w, nW M2 w = nW M w := fun w => by unfold nW; rw [m 42 (by omega) (by omega) (by omega) (by omega) (by omega) (by omega) (by omega) (by omega)]
  refine ⟨⟨?_, ?_, ?_, ?_, ?_, ?_, ?_, ?_, ?_, ?_, ?_⟩, ⟨?_, ?_, ?_, ?_, ?_, ?_, ?_, ?_, ?_, ?_⟩, ff⟩
  · exact hR2.1.mono (fun z w => hsm _ _ (us0 w)) (m 5 (by omega) (by omega) (by omega) (by omega) (by omega) (by omega) (by omega) (by omega)) (m 6 (by omega) (by omega) (by omega) (by omega) (by omega) (by omega) (by omega) (by omega)) (m 7 (by omega) (by omega) (by omega) (by omega) (by omega) (by omega) (by omega) (by omega)) (m 8 (by omega) (by omega) (by omega) (by omega) (by omega) (by omega) (by omega) (by omega)) (m 9 (by omega) (by omega) (by omega) (by omega) (by omega) (by omega) (by omega) (by omega)) (m 10 (by omega) (by omega) (by omega) (by omega) (by omega) (by omega) (by omega) (by omega)) (m 11 (by omega) (by omega) (by omega) (by omega) (by omega) (by omega) (by omega) (by omega)) (m 12 (by omega) (by omega) (by omega) (by omega) (by omega) (by omega) (by omega) (by omega)) (m 13 (by omega) (by omega) (by omega) (by omega) (by omega) (by omega) (by omega) (by omega)) (m 14 (by omega) (by omega) (by omega) (by omega) (by omega) (by omega) (by omega) (by omega)) (m 15 (by omega) (by omega) (by omega) (by omega) (by omega) (by omega) (by omega) (by omega)) (m 16 (by omega) (by omega) (by omega) (by omega) (by omega) (by omega) (by omega) (by omega)) 
  · exact hR2.2.1.mono (fun z w => hsm _ _ (us1 w)) (m 17 (by omega) (by omega) (by omega) (by omega) (by omega) (by omega) (by omega) (by omega)) 
  · exact hR2.2.2.1.mono (fun z w => hsm _ _ (us5 w)) (m 40 (by omega) (by omega) (by omega) (by omega) (by omega) (by omega) (by omega) (by omega)) (c 29 (by omega))
  · intro g hg
    rw [n22] at hg
    obtain ⟨a23, a24, a25, a26, a27, a28⟩ := row g
    rw [a23, a24, a25, a26, a27, a28]
    by_cases w : g = n
    · subst w
      simp only [if_true]
      rw [hqn, cK_setR, hqk, ix_nI (show s < 1000 by omega)]
      rw [cFi_setR, hqi 100 (by omega), hqi 101 (by omega), hqi 103 (by omega), hqi 105 (by omega), cFr_setR, cFr_setR, if_pos ⟨rfl, rfl⟩, if_neg (fun z => by omega), hqr 104 (by omega)]
      unfold cBar
      simp only [cFi_setI, cFr_setI, cFi_setR, cFr_setR, cFi_newO, cFr_newO, true_and, Nat.reduceEqDiff, if_true, if_false]
    · have hg2 : g < nBg M := by omega
      obtain ⟨h0, h100, h101, h102, h103, h104, h105⟩ := hR2.2.2.2.1 g hg2
      have k := hsm 2 g (us2 hg2)
      simp only [w, if_false]
      exact ⟨k.1.trans h0, (k.2.1 100 (by omega)).trans h100, (k.2.1 101 (by omega)).trans h101, (k.2.2.1 102 (by omega)).trans h102, (k.2.1 103 (by omega)).trans h103, (k.2.2.1 104 (by omega)).trans h104, (k.2.1 105 (by omega)).trans h105⟩
  · intro x2 hx2
    rw [n46] at hx2
    obtain ⟨h0, h300, h301, h302, h303, h304, h305, h306, h307, h308, h309, h310⟩ := hR2.2.2.2.2.1 x2 hx2
    have k := hsm 3 x2 (us3 hx2)
    rw [hin _ (nI_m1 (by omega)), m 47 (by omega) (by omega) (by omega) (by omega) (by omega) (by omega) (by omega) (by omega), m 48 (by omega) (by omega) (by omega) (by omega) (by omega) (by omega) (by omega) (by omega), m 49 (by omega) (by omega) (by omega) (by omega) (by omega) (by omega) (by omega) (by omega), m 50 (by omega) (by omega) (by omega) (by omega) (by omega) (by omega) (by omega) (by omega), m 51 (by omega) (by omega) (by omega) (by omega) (by omega) (by omega) (by omega) (by omega), m 52 (by omega) (by omega) (by omega) (by omega) (by omega) (by omega) (by omega) (by omega), m 53 (by omega) (by omega) (by omega) (by omega) (by omega) (by omega) (by omega) (by omega), m 54 (by omega) (by omega) (by omega) (by omega) (by omega) (by omega) (by omega) (by omega), m 55 (by omega) (by omega) (by omega) (by omega) (by omega) (by omega) (by omega) (by omega)]
    exact ⟨k.1.trans h0, (k.2.1 300 (by omega)).trans h300, (k.2.1 301 (by omega)).trans h301, (k.2.1 302 (by omega)).trans h302, (k.2.1 303 (by omega)).trans h303, (k.2.1 304 (by omega)).trans h304, (k.2.1 305 (by omega)).trans h305, (k.2.1 306 (by omega)).trans h306, (k.2.1 307 (by omega)).trans h307, (k.2.1 308 (by omega)).trans h308, (k.2.1 309 (by omega)).trans h309, (k.2.1 310 (by omega)).trans h310⟩
  · exact hR2.2.2.2.2.2.1.mono (fun z w => hsm _ _ (us4 w)) (m 30 (by omega) (by omega) (by omega) (by omega) (by omega) (by omega) (by omega) (by omega)) (m 31 (by omega) (by omega) (by omega) (by omega) (by omega) (by omega) (by omega) (by omega)) (m 32 (by omega) (by omega) (by omega) (by omega) (by omega) (by omega) (by omega) (by omega)) (m 33 (by omega) (by omega) (by omega) (by omega) (by omega) (by omega) (by omega) (by omega)) (m 34 (by omega) (by omega) (by omega) (by omega) (by omega) (by omega) (by omega) (by omega)) (m 35 (by omega) (by omega) (by omega) (by omega) (by omega) (by omega) (by omega) (by omega)) (m 36 (by omega) (by omega) (by omega) (by omega) (by omega) (by omega) (by omega) (by omega)) (m 37 (by omega) (by omega) (by omega) (by omega) (by omega) (by omega) (by omega) (by omega)) (m 38 (by omega) (by omega) (by omega) (by omega) (by omega) (by omega) (by omega) (by omega)) (m 39 (by omega) (by omega) (by omega) (by omega) (by omega) (by omega) (by omega) (by omega)) (m 43 (by omega) (by omega) (by omega) (by omega) (by omega) (by omega) (by omega) (by omega)) (c 29 (by omega))
  · exact hR2.2.2.2.2.2.2.1.mono (fun z w => hsm _ _ (us4 w)) (m 45 (by omega) (by omega) (by omega) (by omega) (by omega) (by omega) (by omega) (by omega)) (c 29 (by omega))
  · exact hR2.2.2.2.2.2.2.2.1.mono (fun z w => hsm _ _ (us10 w)) (m 44 (by omega) (by omega) (by omega) (by omega) (by omega) (by omega) (by omega) (by omega)) (c 29 (by omega))
  · exact hR2.2.2.2.2.2.2.2.2.1.mono (hsm 9 0 (us9 (by omega)))  (c 1 (by omega)) (c 2 (by omega)) (c 3 (by omega)) (c 4 (by omega)) (c 56 (by omega)) (c 57 (by omega)) (c 58 (by omega))
  · exact hR2.2.2.2.2.2.2.2.2.2.1.mono (hsm 9 1 (us9 (by omega))) (m 20 (by omega) (by omega) (by omega) (by omega) (by omega) (by omega) (by omega) (by omega)) (m 21 (by omega) (by omega) (by omega) (by omega) (by omega) (by omega) (by omega) (by omega)) (c 1 (by omega))
  · refine ⟨⟨?_, ?_, ?_, ?_, ?_⟩, fun x2 hx2 => ?_, fun w hw => ?_, fun k1 i1 k2 i2 z1 z2 z3 => ?_⟩
    · exact l0.mono ff (hs5 6 0 (Or.inl ⟨rfl, by omega⟩) (by omega) (by omega))
    · exact l1.mono ff (hs5 6 1 (Or.inl ⟨rfl, by omega⟩) (by omega) (by omega))
    · rw [n22]
      have hh := (hs4 6 2 hL62 (by omega))
      refine ⟨hcap5 _ (hdj4.1 6 2 hL62), ?_, fun i hi2 => ?_⟩
      · show lCn S3 (e 6 2) = n + 1
        rw [hh.rd.1, (hs3 6 2 hL62).rd.1, n2]
      · rw [(hsR 6 2).rd.2.2, hh.rd.2.2, (hs3 6 2 hL62).rd.2.2]
        by_cases w : i = n
        · rw [w, n4, hqn]
        · rw [n3 i (by omega), (hs1 6 2 hL62).rd.2.2]
          exact l2.2.2 i (by omega)
    · rw [n46]; exact l3.mono ff (hs5 6 3 (Or.inl ⟨rfl, by omega⟩) (by omega) (by omega))
    · rw [n29]; exact l4.mono ff (hs5 6 4 (Or.inl ⟨rfl, by omega⟩) (by omega) (by omega))
    · rw [nT2]
      by_cases w : x2 = s
      · subst w
        rw [if_pos rfl]
        refine ⟨hcap5 _ t1, t2, fun i hi2 => ?_⟩
        rw [(hsR 7 x2).rd.2.2]
        show lNth S3 (e 7 x2) i = some (e 2 (M2.2 19 (5 * x2 + i)).toNatClampNeg)
        rw [r19]
        by_cases w : i = j
        · rw [w, t4, if_pos rfl, ix_nI (show n < 1000 by omega), hqn]
        · rw [t3 i (by omega), (hs3 7 x2 hL7s).rd.2.2, (hs2 7 x2 hL7s (by omega)).rd.2.2, (hs1 7 x2 hL7s).rd.2.2, if_neg (by omega)]
          exact (l5 x2 hs16).2.2 i (by rw [hj]; omega)
      · rw [if_neg w]
        have h5 := iTie_n hi.2.2.1 hx2
        have hh := (l5 x2 hx2).mono ff (hs5 7 x2 (Or.inr (Or.inl ⟨rfl, hx2⟩)) (by omega) (by omega))
        refine hh.fn (fun k hk => ?_)
        show e 2 (M2.2 19 (5 * x2 + k)).toNatClampNeg = e 2 (M.2 19 (5 * x2 + k)).toNatClampNeg
        rw [r19, if_neg (by omega)]
    · rw [n29] at hw
      rw [nW2, m 41 (by omega) (by omega) (by omega) (by omega) (by omega) (by omega) (by omega) (by omega)]
      exact (l6 w hw).mono ff (hs5 8 w (Or.inr (Or.inr ⟨rfl, hw⟩)) (by omega) (by omega))
    · unfold isL at z1 z2
      rw [n29] at z1 z2
      rw [(hsR k1 i1).rd.2.1] at z3 ⊢
      rw [(hsR k2 i2).rd.2.1] at z3
      exact hdj4.2 k1 i1 k2 i2 z1 z2 z3
  · obtain ⟨⟨i1, i2⟩, ⟨i3, i4⟩, i5, i6⟩ := hi.1
    refine ⟨⟨by rw [c 29 (by omega), n29]; exact i1, by rw [n29]; exact i2⟩, ⟨?_, by omega⟩, by rw [c 46 (by omega), n46]; exact i5, by rw [n46]; exact i6⟩
    rw [n22, ← hM2]
    unfold mBrg
    rw [mSet_eq, e22, nI1]
  · exact hi.2.1.mono (m 9 (by omega) (by omega) (by omega) (by omega) (by omega) (by omega) (by omega) (by omega)) (m 7 (by omega) (by omega) (by omega) (by omega) (by omega) (by omega) (by omega) (by omega)) (m 5 (by omega) (by omega) (by omega) (by omega) (by omega) (by omega) (by omega) (by omega)) (m 15 (by omega) (by omega) (by omega) (by omega) (by omega) (by omega) (by omega) (by omega)) 
  · intro t ht
    obtain ⟨i1, i2, i3, i4⟩ := hi.2.2.1 t ht
    have h5 := iTie_n hi.2.2.1 ht
    rw [nT2, r18, m 17 (by omega) (by omega) (by omega) (by omega) (by omega) (by omega) (by omega) (by omega), n22]
    by_cases w : t = s
    · subst w
      rw [if_pos rfl, if_pos rfl]
      refine ⟨rfl, i2, ?_, fun k hk => ?_⟩
      · rw [i18, Int32.lt_iff_toInt_lt, nI_toInt (by omega)] at hroom
        rw [Int32.le_iff_toInt_le, nI_toInt (by omega)]
        omega
      · rw [r19]
        by_cases w2 : k = j
        · refine ⟨n, by omega, by rw [if_pos (by omega)], ?_, ?_⟩
          · rw [(row n).2.2.2.2.2, if_pos rfl]
          · rw [(row n).2.2.2.2.1, if_pos rfl]
        · obtain ⟨g, hg, e1, e2, e3⟩ := i4 k (by rw [hj]; omega)
          refine ⟨g, by omega, by rw [if_neg (by omega)]; exact e1, ?_, ?_⟩
          · rw [(row g).2.2.2.2.2, if_neg (by omega)]; exact e2
          · rw [(row g).2.2.2.2.1, if_neg (by omega)]; exact e3
    · rw [if_neg w, if_neg w]
      refine ⟨i1, i2, i3, fun k hk => ?_⟩
      obtain ⟨g, hg, e1, e2, e3⟩ := i4 k hk
      rw [r19]
      refine ⟨g, by omega, by rw [if_neg (by omega)]; exact e1, ?_, ?_⟩
      · rw [(row g).2.2.2.2.2, if_neg (by omega)]; exact e2
      · rw [(row g).2.2.2.2.1, if_neg (by omega)]; exact e3
  · intro w hw
    rw [n29] at hw
    obtain ⟨i1, i2, i3⟩ := hi.2.2.2.1 w hw
    rw [nW2, m 42 (by omega) (by omega) (by omega) (by omega) (by omega) (by omega) (by omega) (by omega), m 41 (by omega) (by omega) (by omega) (by omega) (by omega) (by omega) (by omega) (by omega)]
    refine ⟨i1, by unfold mWk; rw [m 40 (by omega) (by omega) (by omega) (by omega) (by omega) (by omega) (by omega) (by omega)]; exact i2, fun k hk => ?_⟩
    obtain ⟨g, hg, e1, e2⟩ := i3 k hk
    exact ⟨g, by omega, e1, by rw [(row g).2.2.2.2.2, if_neg (by omega)]; exact e2⟩
  · intro g hg
    rw [n22] at hg
    obtain ⟨a23, a24, a25, a26, a27, a28⟩ := row g
    rw [a23, a24, a25, a27, a28]
    by_cases w : g = n
    · subst w
      simp only [if_true]
      refine ⟨Or.inl ⟨trivial, s, j, hs16, rfl, by rw [nT2, if_pos rfl]; omega, by rw [r19, if_pos rfl], fun i hi2 he => ?_⟩, Or.inl ⟨trivial, trivial⟩, hy⟩
      rw [nT2, if_pos rfl] at hi2
      rw [r19] at he
      by_cases w2 : i = j
      · exact w2
      · rw [if_neg (by omega)] at he
        obtain ⟨g2, hg2, e1, -⟩ := (hi.2.2.1 s hs16).2.2.2 i (by rw [hj]; omega)
        rw [e1, eq_nI (by omega) (by omega)] at he
        omega
    · simp only [w, if_false]
      obtain ⟨i1, i2, i3⟩ := hi.2.2.2.2.1 g (by omega)
      refine ⟨?_, i2.imp id (fun z => ⟨z.1, by rw [n46]; exact z.2⟩), i3⟩
      rcases i1 with ⟨z, t, p, ht, et, hp, ep, hup⟩ | ⟨w2, p, hw2, ew, hp, ep, hup⟩
      · have h5 := iTie_n hi.2.2.1 ht
        refine Or.inl ⟨z, t, p, ht, et, ?_, ?_, fun i hi2 he => ?_⟩
        · rw [nT2]
          split
          · rename_i w3; rw [w3, hj] at hp; omega
          · exact hp
        · rw [r19, if_neg]
          · exact ep
          · intro w3
            by_cases w4 : t = s
            · rw [w4, hj] at hp; omega
            · omega
        · rw [nT2] at hi2
          rw [r19] at he
          by_cases w4 : t = s
          · rw [if_pos w4] at hi2
            by_cases w5 : i = j
            · rw [if_pos (by omega), eq_nI (by omega) (by omega)] at he
              omega
            · rw [if_neg (by omega)] at he
              exact hup i (by rw [w4, hj]; omega) he
          · rw [if_neg w4] at hi2
            rw [if_neg (by omega)] at he
            exact hup i hi2 he
      · exact Or.inr ⟨w2, p, by rw [n29]; exact hw2, ew, by rw [nW2]; exact hp, by rw [m 41 (by omega) (by omega) (by omega) (by omega) (by omega) (by omega) (by omega) (by omega)]; exact ep, by rw [nW2, m 41 (by omega) (by omega) (by omega) (by omega) (by omega) (by omega) (by omega) (by omega)]; exact hup⟩
  · exact hi.2.2.2.2.2.1.mono (m 47 (by omega) (by omega) (by omega) (by omega) (by omega) (by omega) (by omega) (by omega)) (m 48 (by omega) (by omega) (by omega) (by omega) (by omega) (by omega) (by omega) (by omega)) (m 49 (by omega) (by omega) (by omega) (by omega) (by omega) (by omega) (by omega) (by omega)) (m 51 (by omega) (by omega) (by omega) (by omega) (by omega) (by omega) (by omega) (by omega)) (c 46 (by omega))
  · exact hi.2.2.2.2.2.2.1.mono (m 37 (by omega) (by omega) (by omega) (by omega) (by omega) (by omega) (by omega) (by omega)) (m 35 (by omega) (by omega) (by omega) (by omega) (by omega) (by omega) (by omega) (by omega)) (m 34 (by omega) (by omega) (by omega) (by omega) (by omega) (by omega) (by omega) (by omega)) (m 33 (by omega) (by omega) (by omega) (by omega) (by omega) (by omega) (by omega) (by omega)) (m 36 (by omega) (by omega) (by omega) (by omega) (by omega) (by omega) (by omega) (by omega)) (c 29 (by omega))
  · exact hi.2.2.2.2.2.2.2.1.mono (m 45 (by omega) (by omega) (by omega) (by omega) (by omega) (by omega) (by omega) (by omega)) (c 29 (by omega))
  · exact hi.2.2.2.2.2.2.2.2.1.mono (m 32 (by omega) (by omega) (by omega) (by omega) (by omega) (by omega) (by omega) (by omega)) (m 39 (by omega) (by omega) (by omega) (by omega) (by omega) (by omega) (by omega) (by omega)) (m 42 (by omega) (by omega) (by omega) (by omega) (by omega) (by omega) (by omega) (by omega)) (m 43 (by omega) (by omega) (by omega) (by omega) (by omega) (by omega) (by omega) (by omega)) (m 44 (by omega) (by omega) (by omega) (by omega) (by omega) (by omega) (by omega) (by omega)) (m 53 (by omega) (by omega) (by omega) (by omega) (by omega) (by omega) (by omega) (by omega)) (m 54 (by omega) (by omega) (by omega) (by omega) (by omega) (by omega) (by omega) (by omega)) (m 55 (by omega) (by omega) (by omega) (by omega) (by omega) (by omega) (by omega) (by omega)) (m 35 (by omega) (by omega) (by omega) (by omega) (by omega) (by omega) (by omega) (by omega)) (c 29 (by omega)) (c 46 (by omega))
  · exact hi.2.2.2.2.2.2.2.2.2.mono (m 20 (by omega) (by omega) (by omega) (by omega) (by omega) (by omega) (by omega) (by omega)) (c 1 (by omega)) (c 4 (by omega))

