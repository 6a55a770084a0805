/-! The class's answers are the reference's: a new boat. -/
def mBot (M : mS) (w h p : Int32) : mS := mSet (mAst (mAst (mAst (mAst (mAst (mAst (mAst M 30 (nBt M) w) 31 (nBt M) h) 33 (nBt M) p) 34 (nBt M) (-1)) 37 (nBt M) (-1)) 38 (nBt M) (M.1 1)) 40 (nBt M) 2) 29 (M.1 29 + 1)
theorem mBot_v {M : mS} {w h p : Int32} {n : Nat} (hn : nBt M = n) : (∀ k, k ≠ 30 → k ≠ 31 → k ≠ 33 → k ≠ 34 → k ≠ 37 → k ≠ 38 → k ≠ 40 → (mBot M w h p).2 k = M.2 k) ∧ (∀ g, (mBot M w h p).2 30 g = (if g = n then w else M.2 30 g) ∧ (mBot M w h p).2 31 g = (if g = n then h else M.2 31 g) ∧ (mBot M w h p).2 33 g = (if g = n then p else M.2 33 g) ∧ (mBot M w h p).2 34 g = (if g = n then -1 else M.2 34 g) ∧ (mBot M w h p).2 37 g = (if g = n then -1 else M.2 37 g) ∧ (mBot M w h p).2 38 g = (if g = n then M.1 1 else M.2 38 g) ∧ (mBot M w h p).2 40 g = (if g = n then 2 else M.2 40 g)) := by
  unfold mBot
  rw [hn]
  refine ⟨fun k a b c d e f g => ?_, fun g => ?_⟩
  · show (mAst _ 40 _ _).2 k = _
    rw [mAst_ne g, mAst_ne f, mAst_ne e, mAst_ne d, mAst_ne c, mAst_ne b, mAst_ne a]
  · simp only [mSet_2, mAst_2, Nat.reduceEqDiff, false_and, true_and, if_false]
/-- what a new boat's objects hold -/
theorem boa_rd {W9 : xWd} {S : cS} {b q q2 q3 : Nat} {n w h p o : Int32} (hb : cDead S b) (hq : cDead (cNewO S b 2) q) (hq2 : cDead (cBt1 (cNewO S b 2) b q n w h) q2) (hq3 : cDead (cNewO (cBt1 (cNewO S b 2) b q n w h) q2 5) q3) :
    (q ≠ b ∧ q2 ≠ b ∧ q2 ≠ q ∧ q3 ≠ b ∧ q3 ≠ q ∧ q3 ≠ q2 ∧ cDead S q ∧ cDead S q2 ∧ cDead S q3) ∧
    (cK (cBoa W9 (cNewO S b 2) b q q2 q3 n w h p o) b = 3 ∧ cK (cBoa W9 (cNewO S b 2) b q q2 q3 n w h p o) q = 11 ∧ cK (cBoa W9 (cNewO S b 2) b q q2 q3 n w h p o) q2 = 6 ∧ cK (cBoa W9 (cNewO S b 2) b q q2 q3 n w h p o) q3 = 1) ∧
    (∀ g, cFi (cBoa W9 (cNewO S b 2) b q q2 q3 n w h p o) b g = if g = 211 then o else if g = 209 then 0 else if g = 207 then -1 else if g = 206 then p else if g = 202 then h else if g = 201 then w else if g = 200 then n else if g = 210 then -1 else 0) ∧ cFr (cBoa W9 (cNewO S b 2) b q q2 q3 n w h p o) b 203 = some q2 ∧ cFr (cBoa W9 (cNewO S b 2) b q q2 q3 n w h p o) b 214 = some q ∧
    (cLen (cBoa W9 (cNewO S b 2) b q q2 q3 n w h p o) q = 10 ∧ ∀ c, cRi (cBoa W9 (cNewO S b 2) b q q2 q3 n w h p o) q c = 0) ∧
    ((∀ g, cFi (cBoa W9 (cNewO S b 2) b q q2 q3 n w h p o) q2 g = if g = 503 then 12 else if g = 502 then -1 else if g = 501 then -1 else if g = 500 then n else if g = 504 then 2 else 0) ∧ cFr (cBoa W9 (cNewO S b 2) b q q2 q3 n w h p o) q2 505 = some q3) ∧
    cFi (cBoa W9 (cNewO S b 2) b q q2 q3 n w h p o) q3 2 = 0 ∧ cFr (cBoa W9 (cNewO S b 2) b q q2 q3 n w h p o) q3 1 = some (wE W9) := by
  obtain ⟨m1, m2⟩ := (dead_nO (by omega)).mp hq
  have k1 : cK (cBt1 (cNewO S b 2) b q n w h) b = 3 := by unfold cBt1; simp only [cK_setI, cK_setR, cK_newI, cK_newO, m1.symm, if_true, if_false]
  have k2 : cK (cBt1 (cNewO S b 2) b q n w h) q = 11 := by unfold cBt1; simp only [cK_setI, cK_setR, cK_newI, if_true]
  have f1 := cBt1_fr (n := n) (w := w) (h := h) hb hq
  have m3 : q2 ≠ b := fun z => by rw [z] at hq2; exact live_of k1 (by omega) hq2
  have m4 : q2 ≠ q := fun z => by rw [z] at hq2; exact live_of k2 (by omega) hq2
  obtain ⟨m5, m6⟩ := (dead_nO (by omega)).mp hq3
  have m7 : q3 ≠ b := fun z => by rw [z] at m6; exact live_of k1 (by omega) m6
  have m8 : q3 ≠ q := fun z => by rw [z] at m6; exact live_of k2 (by omega) m6
  have n1 := m1.symm
  have n3 := m3.symm
  have n4 := m4.symm
  have n5 := m5.symm
  have n7 := m7.symm
  have n8 := m8.symm
  refine ⟨⟨m1, m3, m4, m7, m8, m5, m2, f1.dead hq2, f1.dead m6⟩, ?_⟩
  unfold cBoa cBt cRow cLst cBt1
  simp only [cK_setI, cK_setR, cK_newI, cK_newO, cFi_setI, cFi_setR, cFi_newI, cFi_newO, cFr_setI, cFr_setR, cFr_newI, cFr_newO, cLen_setI, cLen_setR, cLen_newI, cLen_newO, cRi_setI, cRi_setR, cRi_newI, cRi_newO, m1, m3, m4, m5, m7, m8, n1, n3, n4, n5, n7, n8, true_and, false_and, if_true, if_false, Nat.reduceEqDiff, and_self, implies_true, and_true]
  intro g
  by_cases a : g = 207
  · subst a
    simp only [Nat.reduceEqDiff, if_true, if_false]
  · by_cases b9 : g = 206
    · subst b9
      simp only [Nat.reduceEqDiff, if_true, if_false]
    · simp only [a, b9, if_false]

theorem R0_boa {W9 : xWd} {d : Nat → Nat → Nat} {S S2 : cS} {M : mS} {b q q2 q3 n : Nat} {w h p x : Int32} (hd : dInj d) (hR : R0 W9 d S M) (hi : iAll M) (hn0 : nBt M = n) (hn : n < 6) (hst : cK S (d 9 2) = 8) (hp : vp_in p 8) (hb : cDead S b) (hq : cDead (cNewO S b 2) q) (hq2 : cDead (cBt1 (cNewO S b 2) b q (nI n) w h) q2) (hq3 : cDead (cNewO (cBt1 (cNewO S b 2) b q (nI n) w h) q2 5) q3) (hA : lAdd W9 (cSetI (cBoa W9 (cNewO S b 2) b q q2 q3 (nI n) w h p (M.1 1)) (d 6 4) 0 x) (d 6 4) b S2) : R0 W9 (dSw (dSw (dSw (dSw d 4 n b) 10 n q) 5 n q2) 8 n q3) S2 (mBot M w h p) ∧ iAll (mBot M w h p) ∧ fr1 S S2 := by
  have hlv := fun k i (z : us M k i) => R0_live hR z
  obtain ⟨⟨x1, x2, x3, x4, x5, x6, dq, dq2, dq3⟩, ⟨k1, k2, k3, k4⟩, bi1, br203, br214, ⟨qlen, qri⟩, ⟨ti, t505⟩, li2, lr1⟩ := boa_rd (W9 := W9) (p := p) (o := M.1 1) hb hq hq2 hq3
  have hsw : ∀ k i, ¬ cDead S (d k i) → ¬ ((k = 4 ∨ k = 10 ∨ k = 5 ∨ k = 8) ∧ i = n) → (dSw (dSw (dSw (dSw d 4 n b) 10 n q) 5 n q2) 8 n q3) k i = d k i := fun k i hl hne => by
    have s1 : dSw d 4 n b k i = d k i := dSw_ne (by omega) (live_ne hl hb)
    have s2 : dSw (dSw d 4 n b) 10 n q k i = d k i := (dSw_ne (by omega) (by rw [s1]; exact live_ne hl dq)).trans s1
    have s3 : dSw (dSw (dSw d 4 n b) 10 n q) 5 n q2 k i = d k i := (dSw_ne (by omega) (by rw [s2]; exact live_ne hl dq2)).trans s2
    exact (dSw_ne (by omega) (by rw [s3]; exact live_ne hl dq3)).trans s3
  have hu : ∀ k i, us M k i → (dSw (dSw (dSw (dSw d 4 n b) 10 n q) 5 n q2) 8 n q3) k i = d k i := fun k i z => hsw k i (hlv k i z) (fun y => by
    rcases z with ⟨y, _⟩ | ⟨y, _⟩ | ⟨y, _⟩ | ⟨y, _⟩ | ⟨_, y⟩ | ⟨y, _⟩ | ⟨y, _⟩ | ⟨y, _⟩ <;> omega)
  have h92 : (dSw (dSw (dSw (dSw d 4 n b) 10 n q) 5 n q2) 8 n q3) 9 2 = d 9 2 := hsw 9 2 (live_of hst (by omega)) (by omega)
  have hd2 : dInj (dSw (dSw (dSw (dSw d 4 n b) 10 n q) 5 n q2) 8 n q3) := dSw_inj (dSw_inj (dSw_inj (dSw_inj hd 4 n b) 10 n q) 5 n q2) 8 n q3
  have d4n : (dSw (dSw (dSw (dSw d 4 n b) 10 n q) 5 n q2) 8 n q3) 4 n = b := by
    have s1 : dSw d 4 n b 4 n = b := dSw_at
    have s2 : dSw (dSw d 4 n b) 10 n q 4 n = b := (dSw_ne (by omega) (by rw [s1]; exact x1.symm)).trans s1
    have s3 : dSw (dSw (dSw d 4 n b) 10 n q) 5 n q2 4 n = b := (dSw_ne (by omega) (by rw [s2]; exact x2.symm)).trans s2
    exact (dSw_ne (by omega) (by rw [s3]; exact x4.symm)).trans s3
  have d10n : (dSw (dSw (dSw (dSw d 4 n b) 10 n q) 5 n q2) 8 n q3) 10 n = q := by
    have s2 : dSw (dSw d 4 n b) 10 n q 10 n = q := dSw_at
    have s3 : dSw (dSw (dSw d 4 n b) 10 n q) 5 n q2 10 n = q := (dSw_ne (by omega) (by rw [s2]; exact x3.symm)).trans s2
    exact (dSw_ne (by omega) (by rw [s3]; exact x5.symm)).trans s3
  have d5n : (dSw (dSw (dSw (dSw d 4 n b) 10 n q) 5 n q2) 8 n q3) 5 n = q2 := by
    have s3 : dSw (dSw (dSw d 4 n b) 10 n q) 5 n q2 5 n = q2 := dSw_at
    exact (dSw_ne (by omega) (by rw [s3]; exact x6.symm)).trans s3
  have d8n : (dSw (dSw (dSw (dSw d 4 n b) 10 n q) 5 n q2) 8 n q3) 8 n = q3 := dSw_at
  have hR2 := R0_dl hR hi hu h92
  have h64 : (dSw (dSw (dSw (dSw d 4 n b) 10 n q) 5 n q2) 8 n q3) 6 4 = d 6 4 := hu _ _ (us6 (by omega))
  rw [← h64] at hA
  generalize hdd : dSw (dSw (dSw (dSw d 4 n b) 10 n q) 5 n q2) 8 n q3 = e at *
  have f1 : fr1 S (cSetI (cBoa W9 (cNewO S b 2) b q q2 q3 (nI n) w h p (M.1 1)) (e 6 4) 0 x) := (cBoa_fr hb hq hq2 hq3).sI2 (by omega)
  have f2 := fr1_add hA
  have ff := f1.trans f2
  have hsm : ∀ k i, us M k i → sm S S2 (e k i) := fun k i z => ff.sm (R0_live hR2 z)
  have hL := rLst.dj hR2.2.2.2.2.2.2.2.2.2.2
  have hs1 : ∀ k2 i2, isL M k2 i2 → lSame S (cSetI (cBoa W9 (cNewO S b 2) b q q2 q3 (nI n) w h p (M.1 1)) (e 6 4) 0 x) (e k2 i2) := fun k i z => (cBoa_same (hL.1 k i z).1 hb hq hq2 hq3).trans same_m
  have hdj1 := hL.keep f1 hs1
  have hL64 : isL M 6 4 := Or.inl ⟨rfl, by omega⟩
  obtain ⟨⟨l0, l1, l2, l3, l4⟩, l5, l6, l7⟩ := hR2.2.2.2.2.2.2.2.2.2.2
  have hc4 : lCn (cSetI (cBoa W9 (cNewO S b 2) b q q2 q3 (nI n) w h p (M.1 1)) (e 6 4) 0 x) (e 6 4) = n := by rw [(hs1 6 4 hL64).rd.1, l4.2.1, hn0]
  obtain ⟨hdj2, hs2⟩ := hdj1.add hd2 hL64 hA (by rw [hc4]; omega)
  obtain ⟨n1, n2, n3, n4, -, -⟩ := lAdd_new hA (hdj1.1 _ _ hL64) (by rw [hc4]; omega)
  rw [hc4] at n2 n3 n4
  have hs : ∀ k i, isL M k i → ¬ (k = 6 ∧ i = 4) → lSame S S2 (e k i) := fun k i z hne => (hs1 k i z).trans (hs2 k i z hne)
  -- the new objects, in the end
  have g1 : ∀ a c, cK (cBoa W9 (cNewO S b 2) b q q2 q3 (nI n) w h p (M.1 1)) a = c → 1 ≤ c ∧ c ≤ 13 → ¬ cDead (cSetI (cBoa W9 (cNewO S b 2) b q q2 q3 (nI n) w h p (M.1 1)) (e 6 4) 0 x) a := fun a c hc h13 => live_of (show cK (cSetI (cBoa W9 (cNewO S b 2) b q q2 q3 (nI n) w h p (M.1 1)) (e 6 4) 0 x) a = c from hc) h13
  have lb := g1 b 3 k1 (by omega)
  have lq := g1 q 11 k2 (by omega)
  have lq2 := g1 q2 6 k3 (by omega)
  have lq3 := g1 q3 1 k4 (by omega)
  have vI : ∀ a g, 2 < g → ¬ cDead (cSetI (cBoa W9 (cNewO S b 2) b q q2 q3 (nI n) w h p (M.1 1)) (e 6 4) 0 x) a → cFi S2 a g = cFi (cBoa W9 (cNewO S b 2) b q q2 q3 (nI n) w h p (M.1 1)) a g := fun a g hg hl => by rw [f2.2.1 a g hg hl, cFi_setI, if_neg (fun z => by omega)]
  have vR : ∀ a g, 2 < g → ¬ cDead (cSetI (cBoa W9 (cNewO S b 2) b q q2 q3 (nI n) w h p (M.1 1)) (e 6 4) 0 x) a → cFr S2 a g = cFr (cBoa W9 (cNewO S b 2) b q q2 q3 (nI n) w h p (M.1 1)) a g := fun a g hg hl => f2.2.2.1 a g hg hl
  have vK : ∀ a, ¬ cDead (cSetI (cBoa W9 (cNewO S b 2) b q q2 q3 (nI n) w h p (M.1 1)) (e 6 4) 0 x) a → cK S2 a = cK (cBoa W9 (cNewO S b 2) b q q2 q3 (nI n) w h p (M.1 1)) a := fun a hl => f2.1 a hl
  have hne3 : q3 ≠ e 6 4 := by rw [← d8n]; exact hd2.ne (by omega)
  have c3 : lCn (cSetI (cBoa W9 (cNewO S b 2) b q q2 q3 (nI n) w h p (M.1 1)) (e 6 4) 0 x) q3 = 0 := by unfold lCn; rw [cFi_setI, if_neg (fun z => by omega), li2]; rfl
  have r3 : cRf (cSetI (cBoa W9 (cNewO S b 2) b q q2 q3 (nI n) w h p (M.1 1)) (e 6 4) 0 x) q3 1 = wE W9 := by unfold cRf; rw [cFr_setI, lr1]; rfl
  have cap3 : lCap W9 (cSetI (cBoa W9 (cNewO S b 2) b q q2 q3 (nI n) w h p (M.1 1)) (e 6 4) 0 x) q3 := ⟨k4, by rw [c3, cFi_setI, if_neg (fun z => by omega), li2]; rfl, by rw [c3]; omega, by rw [r3, cFr_setI, lr1], Or.inl ⟨r3, c3⟩⟩
  have hs3 : lSame (cSetI (cBoa W9 (cNewO S b 2) b q q2 q3 (nI n) w h p (M.1 1)) (e 6 4) 0 x) S2 q3 := same_add hA cap3 hne3 (Or.inl r3)
  have cap3b := cap3.mono f2 hs3
  have e29 : M.1 29 = nI n := by rw [hi.1.1.1, hn0]
  obtain ⟨m, row⟩ := mBot_v (M := M) (w := w) (h := h) (p := p) hn0
  have c : ∀ k, k ≠ 29 → (mBot M w h p).1 k = M.1 k := fun k a => by unfold mBot; rw [mSet_ne a]; rfl
  have n29 : nBt (mBot M w h p) = n + 1 := by
    unfold nBt mBot
    rw [mSet_eq, e29, nI1, ix_nI (by omega)]
  generalize hM2 : mBot M w h p = M2 at *
  have n46 : nCo M2 = nCo M := by unfold nCo; rw [c 46 (by omega)]
  have n22 : nBg M2 = nBg M := by unfold nBg; rw [c 22 (by omega)]
  have nT2 : ∀ t, nT M2 t = nT M t := fun t => by unfold nT; rw [m 18 (by omega) (by omega) (by omega) (by omega) (by omega) (by omega) (by omega)]
  have nW2 : ∀ t, nW M2 t = nW M t := fun t => by unfold nW; rw [m 42 (by omega) (by omega) (by omega) (by omega) (by omega) (by omega) (by omega)]
  obtain ⟨z32, z39, z42, ⟨z43, z35⟩, z44⟩ := hi.2.2.2.2.2.2.2.2.1.1 n hn (by omega)
  have nWn : nW M n = 0 := by unfold nW; rw [z42]; rfl
  have hag := hi.2.2.2.2.2.2.2.1
  refine ⟨⟨?_, ?_, ?_, ?_, ?_, ?_, ?_, ?_, ?_, ?_, ?_⟩, ⟨?_, ?_, ?_, ?_, ?_, ?_, ?_, ?_, ?_, ?_⟩, ff⟩
  · exact hR2.1.mono (fun z w => hsm _ _ (us0 w)) (m 5 (by omega) (by omega) (by omega) (by omega) (by omega) (by omega) (by omega)) (m 6 (by omega) (by omega) (by omega) (by omega) (by omega) (by omega) (by omega)) (m 7 (by omega) (by omega) (by omega) (by omega) (by omega) (by omega) (by omega)) (m 8 (by omega) (by omega) (by omega) (by omega) (by omega) (by omega) (by omega)) (m 9 (by omega) (by omega) (by omega) (by omega) (by omega) (by omega) (by omega)) (m 10 (by omega) (by omega) (by omega) (by omega) (by omega) (by omega) (by omega)) (m 11 (by omega) (by omega) (by omega) (by omega) (by omega) (by omega) (by omega)) (m 12 (by omega) (by omega) (by omega) (by omega) (by omega) (by omega) (by omega)) (m 13 (by omega) (by omega) (by omega) (by omega) (by omega) (by omega) (by omega)) (m 14 (by omega) (by omega) (by omega) (by omega) (by omega) (by omega) (by omega)) (m 15 (by omega) (by omega) (by omega) (by omega) (by omega) (by omega) (by omega)) (m 16 (by omega) (by omega) (by omega) (by omega) (by omega) (by omega) (by omega)) 
  · exact hR2.2.1.mono (fun z w => hsm _ _ (us1 w)) (m 17 (by omega) (by omega) (by omega) (by omega) (by omega) (by omega) (by omega)) 
  · intro v hv
    rw [n29] at hv
    rw [(row v).2.2.2.2.2.2]
    by_cases y : v = n
    · subst y
      rw [if_pos rfl, d5n, d8n, vK q2 lq2, vI q2 500 (by omega) lq2, vI q2 501 (by omega) lq2, vI q2 502 (by omega) lq2, vI q2 503 (by omega) lq2, vI q2 504 (by omega) lq2, vR q2 505 (by omega) lq2, ti, ti, ti, ti, ti]
      exact ⟨k3, rfl, rfl, rfl, rfl, rfl, t505⟩
    · rw [if_neg y]
      have hv2 : v < nBt M := by omega
      obtain ⟨h0, h500, h501, h502, h503, h504, h505⟩ := hR2.2.2.1 v hv2
      have k := hsm 5 v (us5 hv2)
      exact ⟨k.1.trans h0, (k.2.1 500 (by omega)).trans h500, (k.2.1 501 (by omega)).trans h501, (k.2.1 502 (by omega)).trans h502, (k.2.1 503 (by omega)).trans h503, (k.2.1 504 (by omega)).trans h504, (k.2.2.1 505 (by omega)).trans h505⟩
  · exact hR2.2.2.2.1.mono (fun z w => hsm _ _ (us2 w)) (m 23 (by omega) (by omega) (by omega) (by omega) (by omega) (by omega) (by omega)) (m 24 (by omega) (by omega) (by omega) (by omega) (by omega) (by omega) (by omega)) (m 25 (by omega) (by omega) (by omega) (by omega) (by omega) (by omega) (by omega)) (m 26 (by omega) (by omega) (by omega) (by omega) (by omega) (by omega) (by omega)) (m 27 (by omega) (by omega) (by omega) (by omega) (by omega) (by omega) (by omega)) (m 28 (by omega) (by omega) (by omega) (by omega) (by omega) (by omega) (by omega)) (c 22 (by omega))
  · exact hR2.2.2.2.2.1.mono (fun z w => hsm _ _ (us3 w)) (m 47 (by omega) (by omega) (by omega) (by omega) (by omega) (by omega) (by omega)) (m 48 (by omega) (by omega) (by omega) (by omega) (by omega) (by omega) (by omega)) (m 49 (by omega) (by omega) (by omega) (by omega) (by omega) (by omega) (by omega)) (m 50 (by omega) (by omega) (by omega) (by omega) (by omega) (by omega) (by omega)) (m 51 (by omega) (by omega) (by omega) (by omega) (by omega) (by omega) (by omega)) (m 52 (by omega) (by omega) (by omega) (by omega) (by omega) (by omega) (by omega)) (m 53 (by omega) (by omega) (by omega) (by omega) (by omega) (by omega) (by omega)) (m 54 (by omega) (by omega) (by omega) (by omega) (by omega) (by omega) (by omega)) (m 55 (by omega) (by omega) (by omega) (by omega) (by omega) (by omega) (by omega)) (m 24 (by omega) (by omega) (by omega) (by omega) (by omega) (by omega) (by omega)) (m 25 (by omega) (by omega) (by omega) (by omega) (by omega) (by omega) (by omega)) (c 46 (by omega)) (c 22 (by omega))
  · intro v hv
    rw [n29] at hv
    obtain ⟨a30, a31, a33, a34, a37, a38, -⟩ := row v
    rw [a30, a31, a33, a34, a37, a38, m 32 (by omega) (by omega) (by omega) (by omega) (by omega) (by omega) (by omega), m 39 (by omega) (by omega) (by omega) (by omega) (by omega) (by omega) (by omega), m 35 (by omega) (by omega) (by omega) (by omega) (by omega) (by omega) (by omega), m 36 (by omega) (by omega) (by omega) (by omega) (by omega) (by omega) (by omega), m 43 (by omega) (by omega) (by omega) (by omega) (by omega) (by omega) (by omega)]
    by_cases y : v = n
    · subst y
      simp only [if_true]
      rw [d4n, d5n, d10n, vK b lb, vR b 203 (by omega) lb, vR b 214 (by omega) lb, z32, z39, z43]
      simp only [vI b _ _ lb, Nat.lt_add_left_iff_pos, Nat.reduceLT, bi1, Nat.reduceEqDiff, if_true, if_false]
      exact ⟨k1, trivial, trivial, trivial, br203, trivial, trivial, trivial, trivial, fun z => absurd trivial z, trivial, trivial, fun _ => trivial, trivial, br214⟩
    · simp only [y, if_false]
      have hv2 : v < nBt M := by omega
      exact rowB.mono (hR2.2.2.2.2.2.1 v hv2) (hsm 4 v (us4 hv2)) rfl rfl rfl rfl rfl rfl rfl rfl rfl rfl rfl
  · intro v hv u hu6
    rw [n29] at hv
    rw [m 45 (by omega) (by omega) (by omega) (by omega) (by omega) (by omega) (by omega)]
    by_cases y : v = n
    · subst y
      rw [d4n, vI b 212 (by omega) lb, bi1]
      simp only [Nat.reduceEqDiff, if_false]
      rw [(hag v u hn hu6).2.2 (by omega), Int32.zero_and]
    · have hv2 : v < nBt M := by omega
      rw [(hsm 4 v (us4 hv2)).2.1 212 (by omega)]
      exact hR2.2.2.2.2.2.2.1 v hv2 u hu6
  · intro v hv
    rw [n29] at hv
    rw [m 44 (by omega) (by omega) (by omega) (by omega) (by omega) (by omega) (by omega)]
    by_cases y : v = n
    · subst y
      rw [d10n, vK q lq, f2.2.2.2.1 q lq, f2.2.2.2.2 q lq]
      exact ⟨k2, qlen, fun c hc => (qri c).trans (z44 c hc).symm⟩
    · have hv2 : v < nBt M := by omega
      obtain ⟨a1, a2, a3⟩ := hR2.2.2.2.2.2.2.2.1 v hv2
      have k := hsm 10 v (us10 hv2)
      exact ⟨k.1.trans a1, k.2.2.2.1.trans a2, fun c hc => by rw [k.2.2.2.2]; exact a3 c hc⟩
  · exact hR2.2.2.2.2.2.2.2.2.1.mono (hsm 9 0 (us9 (by omega)))  (c 1 (by omega)) (c 2 (by omega)) (c 3 (by omega)) (c 4 (by omega)) (c 56 (by omega)) (c 57 (by omega)) (c 58 (by omega))
  · exact hR2.2.2.2.2.2.2.2.2.2.1.mono (hsm 9 1 (us9 (by omega))) (m 20 (by omega) (by omega) (by omega) (by omega) (by omega) (by omega) (by omega)) (m 21 (by omega) (by omega) (by omega) (by omega) (by omega) (by omega) (by omega)) (c 1 (by omega))
  · refine ⟨⟨?_, ?_, ?_, ?_, ?_⟩, fun x2 hx2 => ?_, fun v hv => ?_, fun k1 i1 k2 i2 z1 z2 z3 => ?_⟩
    · exact l0.mono ff (hs 6 0 (Or.inl ⟨rfl, by omega⟩) (by omega))
    · exact l1.mono ff (hs 6 1 (Or.inl ⟨rfl, by omega⟩) (by omega))
    · rw [n22]; exact l2.mono ff (hs 6 2 (Or.inl ⟨rfl, by omega⟩) (by omega))
    · rw [n46]; exact l3.mono ff (hs 6 3 (Or.inl ⟨rfl, by omega⟩) (by omega))
    · rw [n29]
      refine ⟨n1, n2, fun j hj => ?_⟩
      by_cases y : j = n
      · rw [y, n4, d4n]
      · rw [n3 j (by omega), (hs1 6 4 hL64).rd.2.2]
        exact l4.2.2 j (by omega)
    · rw [nT2, m 19 (by omega) (by omega) (by omega) (by omega) (by omega) (by omega) (by omega)]
      exact (l5 x2 hx2).mono ff (hs 7 x2 (Or.inr (Or.inl ⟨rfl, hx2⟩)) (by omega))
    · rw [n29] at hv
      rw [nW2, m 41 (by omega) (by omega) (by omega) (by omega) (by omega) (by omega) (by omega)]
      by_cases y : v = n
      · subst y
        rw [d8n, nWn]
        exact ⟨cap3b, hs3.rd.1.trans c3, fun k hk => by omega⟩
      · exact (l6 v (by omega)).mono ff (hs 8 v (Or.inr (Or.inr ⟨rfl, by omega⟩)) (by omega))
    · have cs : ∀ k i, isL M2 k i → isL M k i ∨ (k = 8 ∧ i = n) := fun k i z => by
        unfold isL at z ⊢
        rw [n29] at z
        omega
      have hw3 : cRf S2 (e 8 n) 1 = wE W9 := by rw [d8n, hs3.rd.2.1]; exact r3
      rcases cs k1 i1 z1 with y1 | ⟨rfl, rfl⟩
      · rcases cs k2 i2 z2 with y2 | ⟨rfl, rfl⟩
        · exact hdj2.2 k1 i1 k2 i2 y1 y2 z3
        · exact Or.inl (z3.trans hw3)
      · exact Or.inl hw3
  · obtain ⟨⟨i1, i2⟩, ⟨i3, i4⟩, i5, i6⟩ := hi.1
    refine ⟨⟨?_, by omega⟩, ⟨by rw [c 22 (by omega), n22]; exact i3, by rw [n22]; exact i4⟩, by rw [c 46 (by omega), n46]; exact i5, by rw [n46]; exact i6⟩
    rw [n29, ← hM2]
    unfold mBot
    rw [mSet_eq, e29, nI1]
  · exact hi.2.1.mono (m 9 (by omega) (by omega) (by omega) (by omega) (by omega) (by omega) (by omega)) (m 7 (by omega) (by omega) (by omega) (by omega) (by omega) (by omega) (by omega)) (m 5 (by omega) (by omega) (by omega) (by omega) (by omega) (by omega) (by omega)) (m 15 (by omega) (by omega) (by omega) (by omega) (by omega) (by omega) (by omega)) 
  · exact hi.2.2.1.mono (m 18 (by omega) (by omega) (by omega) (by omega) (by omega) (by omega) (by omega)) (m 17 (by omega) (by omega) (by omega) (by omega) (by omega) (by omega) (by omega)) (m 19 (by omega) (by omega) (by omega) (by omega) (by omega) (by omega) (by omega)) (m 28 (by omega) (by omega) (by omega) (by omega) (by omega) (by omega) (by omega)) (m 27 (by omega) (by omega) (by omega) (by omega) (by omega) (by omega) (by omega)) (c 22 (by omega))
  · intro v hv
    rw [n29] at hv
    rw [nW2, m 42 (by omega) (by omega) (by omega) (by omega) (by omega) (by omega) (by omega), m 41 (by omega) (by omega) (by omega) (by omega) (by omega) (by omega) (by omega), m 28 (by omega) (by omega) (by omega) (by omega) (by omega) (by omega) (by omega), n22]
    unfold mWk
    rw [(row v).2.2.2.2.2.2]
    by_cases y : v = n
    · subst y
      rw [nWn, z42, if_pos rfl]
      exact ⟨⟨rfl, by omega⟩, ⟨2, rfl, by omega, by omega⟩, fun k hk => by omega⟩
    · rw [if_neg y]
      exact hi.2.2.2.1 v (by omega)
  · intro g hg
    rw [n22] at hg
    obtain ⟨i1, i2, i3⟩ := hi.2.2.2.2.1 g hg
    simp only [m 28 (by omega) (by omega) (by omega) (by omega) (by omega) (by omega) (by omega), m 27 (by omega) (by omega) (by omega) (by omega) (by omega) (by omega) (by omega), m 19 (by omega) (by omega) (by omega) (by omega) (by omega) (by omega) (by omega), m 41 (by omega) (by omega) (by omega) (by omega) (by omega) (by omega) (by omega), m 23 (by omega) (by omega) (by omega) (by omega) (by omega) (by omega) (by omega), m 24 (by omega) (by omega) (by omega) (by omega) (by omega) (by omega) (by omega), m 25 (by omega) (by omega) (by omega) (by omega) (by omega) (by omega) (by omega), nT2, nW2, n29, n46]
    exact ⟨i1.imp id (fun ⟨v, pp, hv, r⟩ => ⟨v, pp, by omega, r⟩), i2, i3⟩
  · exact hi.2.2.2.2.2.1.mono (m 47 (by omega) (by omega) (by omega) (by omega) (by omega) (by omega) (by omega)) (m 48 (by omega) (by omega) (by omega) (by omega) (by omega) (by omega) (by omega)) (m 49 (by omega) (by omega) (by omega) (by omega) (by omega) (by omega) (by omega)) (m 51 (by omega) (by omega) (by omega) (by omega) (by omega) (by omega) (by omega)) (c 46 (by omega))
  · intro v hv
    rw [n29] at hv
    obtain ⟨-, -, a33, a34, a37, -, -⟩ := row v
    rw [a33, a34, a37, m 35 (by omega) (by omega) (by omega) (by omega) (by omega) (by omega) (by omega), m 36 (by omega) (by omega) (by omega) (by omega) (by omega) (by omega) (by omega)]
    by_cases y : v = n
    · subst y
      simp only [if_true]
      exact ⟨Or.inl trivial, Or.inl z35, Or.inl ⟨trivial, hp, fun z => vin_m1 (n := 8) (by rw [z]; exact hp)⟩⟩
    · simp only [y, if_false]
      exact hi.2.2.2.2.2.2.1 v (by omega)
  · intro v u hv hu6
    rw [m 45 (by omega) (by omega) (by omega) (by omega) (by omega) (by omega) (by omega), n29]
    obtain ⟨j1, j2, j3⟩ := hag v u hv hu6
    exact ⟨j1, j2, fun z => j3 (by omega)⟩
  · obtain ⟨z1, z2⟩ := hi.2.2.2.2.2.2.2.2.1
    refine ⟨fun v hv hh => ?_, fun x2 hx2 hh => ?_⟩
    · rw [n29] at hh
      rw [m 32 (by omega) (by omega) (by omega) (by omega) (by omega) (by omega) (by omega), m 39 (by omega) (by omega) (by omega) (by omega) (by omega) (by omega) (by omega), m 42 (by omega) (by omega) (by omega) (by omega) (by omega) (by omega) (by omega), m 43 (by omega) (by omega) (by omega) (by omega) (by omega) (by omega) (by omega), m 44 (by omega) (by omega) (by omega) (by omega) (by omega) (by omega) (by omega), m 35 (by omega) (by omega) (by omega) (by omega) (by omega) (by omega) (by omega)]
      exact z1 v hv (by omega)
    · rw [n46] at hh
      rw [m 53 (by omega) (by omega) (by omega) (by omega) (by omega) (by omega) (by omega), m 54 (by omega) (by omega) (by omega) (by omega) (by omega) (by omega) (by omega), m 55 (by omega) (by omega) (by omega) (by omega) (by omega) (by omega) (by omega)]
      exact z2 x2 hx2 hh
  · exact hi.2.2.2.2.2.2.2.2.2.mono (m 20 (by omega) (by omega) (by omega) (by omega) (by omega) (by omega) (by omega)) (c 1 (by omega)) (c 4 (by omega))

