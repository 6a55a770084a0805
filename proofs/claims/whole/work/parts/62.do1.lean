/-! The class's answers are the reference's: what changes sections, the whole. -/

theorem iCnt.mono {M M2 : mS} (h : iCnt M)  (c29 : M2.1 29 = M.1 29) (c22 : M2.1 22 = M.1 22) (c46 : M2.1 46 = M.1 46) : iCnt M2 := by
  have n22 : nBg M2 = nBg M := by unfold nBg; rw [c22]
  have n29 : nBt M2 = nBt M := by unfold nBt; rw [c29]
  have n46 : nCo M2 = nCo M := by unfold nCo; rw [c46]
  unfold iCnt at *
  simp only [n22, n29, n46, c29, c22, c46]
  exact h

theorem iSec.mono {M M2 : mS} (h : iSec M) (m9 : M2.2 9 = M.2 9) (m7 : M2.2 7 = M.2 7) (m5 : M2.2 5 = M.2 5) (m15 : M2.2 15 = M.2 15)  : iSec M2 := by
  unfold iSec at *
  simp only [m9, m7, m5, m15]
  exact h

theorem iTie.mono {M M2 : mS} (h : iTie M) (m18 : M2.2 18 = M.2 18) (m17 : M2.2 17 = M.2 17) (m19 : M2.2 19 = M.2 19) (m28 : M2.2 28 = M.2 28) (m27 : M2.2 27 = M.2 27) (c22 : M2.1 22 = M.1 22) : iTie M2 := by
  have n22 : nBg M2 = nBg M := by unfold nBg; rw [c22]
  have eT : nT M2 = nT M := by funext t; unfold nT; rw [m18]
  unfold iTie at *
  simp only [n22, eT, m18, m17, m19, m28, m27]
  exact h

theorem iTow.mono {M M2 : mS} (h : iTow M) (m42 : M2.2 42 = M.2 42) (m40 : M2.2 40 = M.2 40) (m41 : M2.2 41 = M.2 41) (m28 : M2.2 28 = M.2 28) (c29 : M2.1 29 = M.1 29) (c22 : M2.1 22 = M.1 22) : iTow M2 := by
  have n22 : nBg M2 = nBg M := by unfold nBg; rw [c22]
  have n29 : nBt M2 = nBt M := by unfold nBt; rw [c29]
  have eW : nW M2 = nW M := by funext t; unfold nW; rw [m42]
  unfold iTow mWk at *
  simp only [n22, n29, eW, m42, m40, m41, m28]
  exact h

theorem iBar.mono {M M2 : mS} (h : iBar M) (m28 : M2.2 28 = M.2 28) (m27 : M2.2 27 = M.2 27) (m18 : M2.2 18 = M.2 18) (m19 : M2.2 19 = M.2 19) (m42 : M2.2 42 = M.2 42) (m41 : M2.2 41 = M.2 41) (m24 : M2.2 24 = M.2 24) (m25 : M2.2 25 = M.2 25) (m23 : M2.2 23 = M.2 23) (c22 : M2.1 22 = M.1 22) (c29 : M2.1 29 = M.1 29) (c46 : M2.1 46 = M.1 46) : iBar M2 := by
  have n22 : nBg M2 = nBg M := by unfold nBg; rw [c22]
  have n29 : nBt M2 = nBt M := by unfold nBt; rw [c29]
  have n46 : nCo M2 = nCo M := by unfold nCo; rw [c46]
  have eT : nT M2 = nT M := by funext t; unfold nT; rw [m18]
  have eW : nW M2 = nW M := by funext t; unfold nW; rw [m42]
  unfold iBar at *
  simp only [n22, n29, n46, eT, eW, m28, m27, m18, m19, m42, m41, m24, m25, m23]
  exact h

theorem iCon.mono {M M2 : mS} (h : iCon M) (m47 : M2.2 47 = M.2 47) (m48 : M2.2 48 = M.2 48) (m49 : M2.2 49 = M.2 49) (m51 : M2.2 51 = M.2 51) (c46 : M2.1 46 = M.1 46) : iCon M2 := by
  have n46 : nCo M2 = nCo M := by unfold nCo; rw [c46]
  unfold iCon at *
  simp only [n46, m47, m48, m49, m51]
  exact h

theorem iBoa.mono {M M2 : mS} (h : iBoa M) (m37 : M2.2 37 = M.2 37) (m35 : M2.2 35 = M.2 35) (m34 : M2.2 34 = M.2 34) (m33 : M2.2 33 = M.2 33) (m36 : M2.2 36 = M.2 36) (c29 : M2.1 29 = M.1 29) : iBoa M2 := by
  have n29 : nBt M2 = nBt M := by unfold nBt; rw [c29]
  unfold iBoa at *
  simp only [n29, m37, m35, m34, m33, m36]
  exact h

theorem iAgr.mono {M M2 : mS} (h : iAgr M) (m45 : M2.2 45 = M.2 45) (c29 : M2.1 29 = M.1 29) : iAgr M2 := by
  have n29 : nBt M2 = nBt M := by unfold nBt; rw [c29]
  unfold iAgr at *
  simp only [n29, m45]
  exact h

theorem iZer.mono {M M2 : mS} (h : iZer M) (m32 : M2.2 32 = M.2 32) (m39 : M2.2 39 = M.2 39) (m42 : M2.2 42 = M.2 42) (m43 : M2.2 43 = M.2 43) (m44 : M2.2 44 = M.2 44) (m53 : M2.2 53 = M.2 53) (m54 : M2.2 54 = M.2 54) (m55 : M2.2 55 = M.2 55) (m35 : M2.2 35 = M.2 35) (c29 : M2.1 29 = M.1 29) (c46 : M2.1 46 = M.1 46) : iZer M2 := by
  have n29 : nBt M2 = nBt M := by unfold nBt; rw [c29]
  have n46 : nCo M2 = nCo M := by unfold nCo; rw [c46]
  unfold iZer at *
  simp only [n29, n46, m32, m39, m42, m43, m44, m53, m54, m55, m35]
  exact h

theorem iTop.mono {M M2 : mS} (h : iTop M) (m20 : M2.2 20 = M.2 20) (c1 : M2.1 1 = M.1 1) (c4 : M2.1 4 = M.1 4) : iTop M2 := by
  unfold iTop at *
  simp only [m20, c1, c4]
  exact h

theorem ans_1 {L : List String} {W9 : xWd} {B a : Nat} {S : cS} {M2 : mS} {o : Int32 × mS} {v w : Int32} (h : RR W9 B a S M2) (ho : o = (v, M2)) (h0 : M2.1 0 = 0) (e : w = v) : ans L W9 B a o (rI w) S := by
  rw [ho, e]
  exact ans_i h h0
/-- answers of what answers nothing -/
def ansV (L : List String) (W9 : xWd) (B a : Nat) (M2 : mS) (r : xRes) (S2 : cS) : Prop := RR W9 B a S2 M2 ∧ r = if M2.1 0 = 0 then rV else rX (L.getD ((M2.1 0).toNatClampNeg - 1) "")
theorem ansV_1 {L : List String} {W9 : xWd} {B a : Nat} {S : cS} {M2 o : mS} (h : RR W9 B a S M2) (ho : o = M2) (h0 : M2.1 0 = 0) : ansV L W9 B a o rV S := by
  rw [ho]
  exact ⟨h, by rw [if_pos h0]⟩
theorem ansV_e {L : List String} {W9 : xWd} {B a : Nat} {S : cS} {M o : mS} {z : Int32} {e : String} (h : RR W9 B a S M) (ho : o = mSet M 0 z) (h0 : ¬ z = 0) (he : L.getD (z.toNatClampNeg - 1) "" = e) : ansV L W9 B a o (rX e) S := by
  rw [ho]
  exact ⟨RR_set0 h, by rw [mSet_eq, if_neg h0, he]⟩

theorem Q_reach {W9 : xWd} {B a : Nat} {S : cS} {M : mS} {k : Int32} {ho : Int32} {x : Int32} {wi : Int32} {z : Int32} {K : xRes → cS → Prop} (h : RR W9 B a S M) (hz : z = 0 ∨ z = 1) (hk : ∀ r S2, ansV [eB, eA, eS] W9 B a (oReach M k ho x wi z) r S2 → K r S2) : (spX7_reach W9).2 [.ref a, .int k, .int ho, .int x, .int wi, .int z] S K := by
  have h0 := RR_set0 (z := 0) h
  have h00 := h0
  obtain ⟨d, np, N, h0d⟩ := h00
  have h0e := h0d
  obtain ⟨hd, rfl, hi, hR, hp, hl, hN, hB⟩ := h0e
  have g0 := hR.2.2.2.2.2.2.2.2.1.1
  obtain ⟨g7, g8, g9, g10, g11, g12, g13⟩ := hR.2.2.2.2.2.2.2.2.1.2.2
  have e29 : M.1 29 = nI (nBt M) := hi.1.1.1
  have e22 : M.1 22 = nI (nBg M) := hi.1.2.1.1
  have e46 : M.1 46 = nI (nCo M) := hi.1.2.2.1
  have b29 : nBt M ≤ 6 := hi.1.1.2
  have b22 : nBg M ≤ 24 := hi.1.2.1.2
  have b46 : nCo M ≤ 12 := hi.1.2.2.2
  have n29 : nBt (mSet M 0 0) = nBt M := rfl
  have n22 : nBg (mSet M 0 0) = nBg M := rfl
  have n46 : nCo (mSet M 0 0) = nCo M := rfl
  obtain ⟨f1, f2, f3, f4, f5, f6⟩ := R0_list hR
  have f5 : cFi S (d 6 0) 2 = nI 7 := f5
  obtain ⟨s1, s2, s3, s4, s5, s6⟩ := R0_boats hR
  rw [n29] at s4 s5 s6
  rw [spwX7_reach, f2, f5, s2, s4]
  refine ⟨hz, g0, ⟨f1, f3⟩, ⟨s1, s3⟩, fun y => hk _ _ (ansV_e h (z := 1) ?_ (by decide) rfl), fun y => ⟨fun y2 => hk _ _ (ansV_e h (z := 2) ?_ (by decide) rfl), fun y2 => ?_⟩⟩
  · unfold oReach
    rw [if_pos (by rw [idx6]; exact y)]
  · unfold oReach
    rw [if_neg (not_not_intro (by rw [idx6]; exact y)), if_pos y2]
  · have y0 : (0 ≤ k ∧ k ≤ 6) := by rw [idx6]; exact y
    rw [idx (by omega)] at y
    obtain ⟨s, hs, rfl⟩ := y
    have e600 := (hR.1 s hs).2.1
    have hbz := R0_bz hR hi (nI s)
    have ho' : oReach M (nI s) ho x wi z = if 0 < mCnt M (nI s) (nBt M) then mSet M 0 3 else mAst (mAst (mAst (mAst (mAst (mSet M 0 0) 5 s 0) 9 s ho) 6 s x) 10 s wi) 11 s z := by
      unfold oReach
      rw [if_neg (not_not_intro y0), if_neg (not_not_intro y2), ix_nI (show s < 1000 by omega)]
    have hcn : (0 < mCnt (mSet M 0 0) (nI s) (nBt M)) = (0 < mCnt M (nI s) (nBt M)) := by
      have : ∀ n, mCnt (mSet M 0 0) (nI s) n = mCnt M (nI s) n := by
        intro n
        induction n with
        | zero => rfl
        | succ n ih =>
          show mCnt (mSet M 0 0) (nI s) n + _ = mCnt M (nI s) n + _
          rw [ih]
          rfl
      rw [this]
    rw [n29, hcn] at hbz
    rw [ix_nI (show s < 1000 by omega), f6 s hs, e600]
    refine ⟨fun q => hk _ _ (ansV_e h (z := 3) ?_ (by decide) rfl), fun q => ?_⟩
    · rw [ho', if_pos]
      rw [← hbz]
      rw [Bool.not_eq_false] at q
      exact q
    · have hq : ¬ 0 < mCnt M (nI s) (nBt M) := by rw [← hbz, q]; exact fun z => nomatch z
      rw [if_neg hq] at ho'
      generalize hM2 : mAst (mAst (mAst (mAst (mAst (mSet M 0 0) 5 s 0) 9 s ho) 6 s x) 10 s wi) 11 s z = M2
      have m : ∀ k, k ≠ 5 → k ≠ 9 → k ≠ 6 → k ≠ 10 → k ≠ 11 → M2.2 k = (mSet M 0 0).2 k := by
        intro k a0 a1 a2 a3 a4
        rw [← hM2]
        first | rfl | (repeat rw [mAst_ne (by omega)]) | (repeat rw [mAst_ne (by omega)]; rfl)
      have c : ∀ k, M2.1 k = (mSet M 0 0).1 k := by
        intro k 
        rw [← hM2]
        first | rfl | (repeat rw [mSet_ne (by omega)]) | (repeat rw [mSet_ne (by omega)]; rfl)
      generalize hS2 : cSetI (cSetI (cSetI (cSetI (cSetI S (d 0 s) 604 0) (d 0 s) 605 ho) (d 0 s) 601 x) (d 0 s) 606 wi) (d 0 s) 607 z = S2
      have hch : chg S S2 (fun b => b = d 0 s) := by
        rw [← hS2]
        exact chg.sI (X := fun b => b = d 0 s) (chg.sI (X := fun b => b = d 0 s) (chg.sI (X := fun b => b = d 0 s) (chg.sI (X := fun b => b = d 0 s) (chg.sI (X := fun b => b = d 0 s) chg.rf rfl) rfl) rfl) rfl) rfl
      have hX : ∀ (k i : Nat), k ≠ 0 → ¬ (d k i = d 0 s) := fun k i a z => a (hd _ _ _ _ z).1
      have hL : ∀ k i, isL (mSet M 0 0) k i → ¬ (d k i = d 0 s) := fun k i z => hX k i (by rcases z with ⟨rfl, _⟩ | ⟨rfl, _⟩ | ⟨rfl, _⟩ <;> omega)
      have hR2 : R0 W9 d S2 M2 := by
        refine ⟨?_, hR.2.1.mono (fun z _ => hch.sm (hX 1 z (by omega))) (m 17 (by omega) (by omega) (by omega) (by omega) (by omega)) , hR.2.2.1.mono (fun z _ => hch.sm (hX 5 z (by omega))) (m 40 (by omega) (by omega) (by omega) (by omega) (by omega)) (c 29), hR.2.2.2.1.mono (fun z _ => hch.sm (hX 2 z (by omega))) (m 23 (by omega) (by omega) (by omega) (by omega) (by omega)) (m 24 (by omega) (by omega) (by omega) (by omega) (by omega)) (m 25 (by omega) (by omega) (by omega) (by omega) (by omega)) (m 26 (by omega) (by omega) (by omega) (by omega) (by omega)) (m 27 (by omega) (by omega) (by omega) (by omega) (by omega)) (m 28 (by omega) (by omega) (by omega) (by omega) (by omega)) (c 22), hR.2.2.2.2.1.mono (fun z _ => hch.sm (hX 3 z (by omega))) (m 47 (by omega) (by omega) (by omega) (by omega) (by omega)) (m 48 (by omega) (by omega) (by omega) (by omega) (by omega)) (m 49 (by omega) (by omega) (by omega) (by omega) (by omega)) (m 50 (by omega) (by omega) (by omega) (by omega) (by omega)) (m 51 (by omega) (by omega) (by omega) (by omega) (by omega)) (m 52 (by omega) (by omega) (by omega) (by omega) (by omega)) (m 53 (by omega) (by omega) (by omega) (by omega) (by omega)) (m 54 (by omega) (by omega) (by omega) (by omega) (by omega)) (m 55 (by omega) (by omega) (by omega) (by omega) (by omega)) (m 24 (by omega) (by omega) (by omega) (by omega) (by omega)) (m 25 (by omega) (by omega) (by omega) (by omega) (by omega)) (c 46) (c 22), hR.2.2.2.2.2.1.mono (fun z _ => hch.sm (hX 4 z (by omega))) (m 30 (by omega) (by omega) (by omega) (by omega) (by omega)) (m 31 (by omega) (by omega) (by omega) (by omega) (by omega)) (m 32 (by omega) (by omega) (by omega) (by omega) (by omega)) (m 33 (by omega) (by omega) (by omega) (by omega) (by omega)) (m 34 (by omega) (by omega) (by omega) (by omega) (by omega)) (m 35 (by omega) (by omega) (by omega) (by omega) (by omega)) (m 36 (by omega) (by omega) (by omega) (by omega) (by omega)) (m 37 (by omega) (by omega) (by omega) (by omega) (by omega)) (m 38 (by omega) (by omega) (by omega) (by omega) (by omega)) (m 39 (by omega) (by omega) (by omega) (by omega) (by omega)) (m 43 (by omega) (by omega) (by omega) (by omega) (by omega)) (c 29), hR.2.2.2.2.2.2.1.mono (fun z _ => hch.sm (hX 4 z (by omega))) (m 45 (by omega) (by omega) (by omega) (by omega) (by omega)) (c 29), hR.2.2.2.2.2.2.2.1.mono (fun z _ => hch.sm (hX 10 z (by omega))) (m 44 (by omega) (by omega) (by omega) (by omega) (by omega)) (c 29), hR.2.2.2.2.2.2.2.2.1.mono (hch.sm (hX 9 0 (by omega)))  (c 1) (c 2) (c 3) (c 4) (c 56) (c 57) (c 58), hR.2.2.2.2.2.2.2.2.2.1.mono (hch.sm (hX 9 1 (by omega))) (m 20 (by omega) (by omega) (by omega) (by omega) (by omega)) (m 21 (by omega) (by omega) (by omega) (by omega) (by omega)) (c 1), hR.2.2.2.2.2.2.2.2.2.2.mono (fun k i z hc => hch.lst (hL k i z) hc) (m 18 (by omega) (by omega) (by omega) (by omega) (by omega)) (m 19 (by omega) (by omega) (by omega) (by omega) (by omega)) (m 41 (by omega) (by omega) (by omega) (by omega) (by omega)) (m 42 (by omega) (by omega) (by omega) (by omega) (by omega)) (c 22) (c 29) (c 46)⟩
        · intro x hx
          obtain ⟨h0, h600, h601, h602, h603, h604, h605, h606, h607, h608, h609, h610, h611, h612⟩ := hR.1 x hx
          have ed : (d 0 x = d 0 s) = (x = s) := propext ⟨fun y => (hd _ _ _ _ y).2, fun y => by rw [y]⟩
          refine ⟨(hch.2.2.1 _).trans h0, ?_⟩
          rw [← hS2, ← hM2]
          by_cases q : x = s
          · subst q
            simp only [cFi_setI, cFr_setI, cFi_setR, cFr_setR, cFi_ast, cFr_ast, cRi_ast, cRi_setI, cRi_setR, mAst_2, mSet_1, eq_self, Nat.reduceEqDiff, and_false, false_and, and_true, true_and, and_self, if_true, if_false, not_true_eq_false, not_false_eq_true, false_implies, true_implies, implies_true, ed]
            exact ⟨h600, h602, h603, h608, h609, h610⟩
          · simp only [cFi_setI, cFr_setI, cFi_setR, cFr_setR, cFi_ast, cFr_ast, cRi_ast, cRi_setI, cRi_setR, mAst_2, mSet_1, eq_self, Nat.reduceEqDiff, and_false, false_and, and_true, true_and, and_self, if_true, if_false, not_true_eq_false, not_false_eq_true, false_implies, true_implies, implies_true, ed, q]
            exact ⟨h600, h601, h602, h603, h604, h605, h606, h607, h608, h609, h610, h611, h612⟩

      have hi2 : iAll M2 := by
        refine ⟨hi.1.mono  (c 29) (c 22) (c 46), ?_, hi.2.2.1.mono (m 18 (by omega) (by omega) (by omega) (by omega) (by omega)) (m 17 (by omega) (by omega) (by omega) (by omega) (by omega)) (m 19 (by omega) (by omega) (by omega) (by omega) (by omega)) (m 28 (by omega) (by omega) (by omega) (by omega) (by omega)) (m 27 (by omega) (by omega) (by omega) (by omega) (by omega)) (c 22), hi.2.2.2.1.mono (m 42 (by omega) (by omega) (by omega) (by omega) (by omega)) (m 40 (by omega) (by omega) (by omega) (by omega) (by omega)) (m 41 (by omega) (by omega) (by omega) (by omega) (by omega)) (m 28 (by omega) (by omega) (by omega) (by omega) (by omega)) (c 29) (c 22), hi.2.2.2.2.1.mono (m 28 (by omega) (by omega) (by omega) (by omega) (by omega)) (m 27 (by omega) (by omega) (by omega) (by omega) (by omega)) (m 18 (by omega) (by omega) (by omega) (by omega) (by omega)) (m 19 (by omega) (by omega) (by omega) (by omega) (by omega)) (m 42 (by omega) (by omega) (by omega) (by omega) (by omega)) (m 41 (by omega) (by omega) (by omega) (by omega) (by omega)) (m 24 (by omega) (by omega) (by omega) (by omega) (by omega)) (m 25 (by omega) (by omega) (by omega) (by omega) (by omega)) (m 23 (by omega) (by omega) (by omega) (by omega) (by omega)) (c 22) (c 29) (c 46), hi.2.2.2.2.2.1.mono (m 47 (by omega) (by omega) (by omega) (by omega) (by omega)) (m 48 (by omega) (by omega) (by omega) (by omega) (by omega)) (m 49 (by omega) (by omega) (by omega) (by omega) (by omega)) (m 51 (by omega) (by omega) (by omega) (by omega) (by omega)) (c 46), hi.2.2.2.2.2.2.1.mono (m 37 (by omega) (by omega) (by omega) (by omega) (by omega)) (m 35 (by omega) (by omega) (by omega) (by omega) (by omega)) (m 34 (by omega) (by omega) (by omega) (by omega) (by omega)) (m 33 (by omega) (by omega) (by omega) (by omega) (by omega)) (m 36 (by omega) (by omega) (by omega) (by omega) (by omega)) (c 29), hi.2.2.2.2.2.2.2.1.mono (m 45 (by omega) (by omega) (by omega) (by omega) (by omega)) (c 29), hi.2.2.2.2.2.2.2.2.1.mono (m 32 (by omega) (by omega) (by omega) (by omega) (by omega)) (m 39 (by omega) (by omega) (by omega) (by omega) (by omega)) (m 42 (by omega) (by omega) (by omega) (by omega) (by omega)) (m 43 (by omega) (by omega) (by omega) (by omega) (by omega)) (m 44 (by omega) (by omega) (by omega) (by omega) (by omega)) (m 53 (by omega) (by omega) (by omega) (by omega) (by omega)) (m 54 (by omega) (by omega) (by omega) (by omega) (by omega)) (m 55 (by omega) (by omega) (by omega) (by omega) (by omega)) (m 35 (by omega) (by omega) (by omega) (by omega) (by omega)) (c 29) (c 46), hi.2.2.2.2.2.2.2.2.2.mono (m 20 (by omega) (by omega) (by omega) (by omega) (by omega)) (c 1) (c 4)⟩
        · intro x2 hx2
          obtain ⟨⟨i1, i2⟩, i3, i4⟩ := hi.2.1 x2 hx2
          rw [← hM2]
          by_cases q : x2 = s
          · subst q
            simp only [mAst_2, Nat.reduceEqDiff, true_and, false_and, if_true, if_false, true_or]
            exact ⟨⟨y2.1, i2⟩, i4⟩
          · simp only [mAst_2, Nat.reduceEqDiff, true_and, false_and, if_true, if_false, q]
            exact ⟨⟨i1, i2⟩, i3, i4⟩

      have hE : RR W9 B (d 9 0) S2 M2 := by
        have hw : ways M2 (nBt (mSet M 0 0)) = ways (mSet M 0 0) (nBt (mSet M 0 0)) := ways_same _ (fun v _ => way_of (by rw [m 34 (by omega) (by omega) (by omega) (by omega) (by omega)]) (by rw [m 37 (by omega) (by omega) (by omega) (by omega) (by omega)]) (by rw [m 33 (by omega) (by omega) (by omega) (by omega) (by omega)]) (by rw [m 35 (by omega) (by omega) (by omega) (by omega) (by omega)]))
        exact ⟨d, np, N, (RRd_step h0d hR2 hi2 hw hch (hX 9 2 (by omega)) (fun i => hX 11 i (by omega)) (fun i => hX 12 i (by omega)) (c 22 ) (c 29 ) (m 27 (by omega) (by omega) (by omega) (by omega) (by omega)) (m 28 (by omega) (by omega) (by omega) (by omega) (by omega)) (m 33 (by omega) (by omega) (by omega) (by omega) (by omega)) (m 34 (by omega) (by omega) (by omega) (by omega) (by omega))).1⟩
      have hE0 : M2.1 0 = 0 := by rw [← hM2]; rfl
      exact hk _ _ (ansV_1 hE (by rw [ho', hM2]) hE0)

