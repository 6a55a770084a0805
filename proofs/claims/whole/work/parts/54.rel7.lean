/-! The relation, step by step: what boats do in an hour. -/
def rowB (d : Nat → Nat → Nat) (S : cS) (M : mS) (w : Nat) : Prop := cK S (d 4 w) = 3 ∧ cFi S (d 4 w) 200 = nI w ∧ cFi S (d 4 w) 201 = M.2 30 w ∧ cFi S (d 4 w) 202 = M.2 31 w ∧ cFr S (d 4 w) 203 = some (d 5 w) ∧ cFi S (d 4 w) 204 = M.2 32 w ∧ cFi S (d 4 w) 205 = M.2 39 w ∧ cFi S (d 4 w) 206 = (if M.2 34 w = -1 then M.2 33 w else -1) ∧ cFi S (d 4 w) 207 = M.2 34 w ∧ (¬ M.2 34 w = -1 → cFi S (d 4 w) 208 = M.2 35 w) ∧ cFi S (d 4 w) 209 = (if M.2 34 w = -1 then 0 else M.2 36 w) ∧ cFi S (d 4 w) 210 = M.2 37 w ∧ (M.2 34 w = -1 → cFi S (d 4 w) 211 = M.2 38 w) ∧ cFi S (d 4 w) 213 = M.2 43 w ∧ cFr S (d 4 w) 214 = some (d 10 w)
theorem rBoa_row {d : Nat → Nat → Nat} {S : cS} {M : mS} : rBoa d S M = ∀ w, w < nBt M → rowB d S M w := rfl

theorem rowB.mono {d : Nat → Nat → Nat} {S S2 : cS} {M M2 : mS} {w : Nat} (h : rowB d S M w) (k : sm S S2 (d 4 w)) (m30 : M2.2 30 w = M.2 30 w) (m31 : M2.2 31 w = M.2 31 w) (m32 : M2.2 32 w = M.2 32 w) (m33 : M2.2 33 w = M.2 33 w) (m34 : M2.2 34 w = M.2 34 w) (m35 : M2.2 35 w = M.2 35 w) (m36 : M2.2 36 w = M.2 36 w) (m37 : M2.2 37 w = M.2 37 w) (m38 : M2.2 38 w = M.2 38 w) (m39 : M2.2 39 w = M.2 39 w) (m43 : M2.2 43 w = M.2 43 w) : rowB d S2 M2 w := by
  obtain ⟨h0, h200, h201, h202, h203, h204, h205, h206, h207, h208, h209, h210, h211, h213, h214⟩ := h
  exact ⟨k.1.trans h0, (k.2.1 200 (by omega)).trans h200, by rw [m30]; exact (k.2.1 201 (by omega)).trans h201, by rw [m31]; exact (k.2.1 202 (by omega)).trans h202, (k.2.2.1 203 (by omega)).trans h203, by rw [m32]; exact (k.2.1 204 (by omega)).trans h204, by rw [m39]; exact (k.2.1 205 (by omega)).trans h205, by rw [m33, m34]; exact (k.2.1 206 (by omega)).trans h206, by rw [m34]; exact (k.2.1 207 (by omega)).trans h207, fun z => by rw [m35]; exact (k.2.1 208 (by omega)).trans (h208 (by rw [m34] at z; exact z)), by rw [m34, m36]; exact (k.2.1 209 (by omega)).trans h209, by rw [m37]; exact (k.2.1 210 (by omega)).trans h210, fun z => by rw [m38]; exact (k.2.1 211 (by omega)).trans (h211 (by rw [m34] at z; exact z)), by rw [m43]; exact (k.2.1 213 (by omega)).trans h213, (k.2.2.1 214 (by omega)).trans h214⟩
/-- what was changed, but for lists' rows: the objects X -/
def chg (S S2 : cS) (X : Nat → Prop) : Prop := (∀ b, ¬ X b → cFi S2 b = cFi S b ∧ cFr S2 b = cFr S b ∧ cRi S2 b = cRi S b) ∧ (∀ b, cRr S2 b = cRr S b) ∧ (∀ b, cK S2 b = cK S b) ∧ ∀ b, cLen S2 b = cLen S b
theorem chg.sm {S S2 : cS} {X : Nat → Prop} (h : chg S S2 X) {b : Nat} (hb : ¬ X b) : sm S S2 b := ⟨h.2.2.1 b, fun g _ => congrFun (h.1 b hb).1 g, fun g _ => congrFun (h.1 b hb).2.1 g, h.2.2.2 b, (h.1 b hb).2.2⟩
theorem chg.rf {S : cS} {X : Nat → Prop} : chg S S X := ⟨fun _ _ => ⟨rfl, rfl, rfl⟩, fun _ => rfl, fun _ => rfl, fun _ => rfl⟩
theorem chg.sI {S S2 : cS} {X : Nat → Prop} (h : chg S S2 X) {a g : Nat} {x : Int32} (ha : X a) : chg S (cSetI S2 a g x) X := ⟨fun b hb => ⟨by have hne : b ≠ a := fun z => hb (by rw [z]; exact ha); funext k; rw [cFi_setI, if_neg (fun z => hne z.1)]; exact congrFun (h.1 b hb).1 k, (h.1 b hb).2.1, (h.1 b hb).2.2⟩, h.2.1, h.2.2.1, h.2.2.2⟩
theorem chg.ast {S S2 : cS} {X : Nat → Prop} (h : chg S S2 X) {a j : Nat} {x : Int32} (ha : X a) : chg S (cAst S2 a j x) X := ⟨fun b hb => ⟨(h.1 b hb).1, (h.1 b hb).2.1, by have hne : b ≠ a := fun z => hb (by rw [z]; exact ha); funext k; rw [cRi_ast, if_neg (fun z => hne z.1)]; exact congrFun (h.1 b hb).2.2 k⟩, h.2.1, h.2.2.1, h.2.2.2⟩
theorem chg.sR {S S2 : cS} {X : Nat → Prop} (h : chg S S2 X) {a g : Nat} {r : Option Nat} (ha : X a) : chg S (cSetR S2 a g r) X := ⟨fun b hb => ⟨(h.1 b hb).1, by have hne : b ≠ a := fun z => hb (by rw [z]; exact ha); funext k; rw [cFr_setR, if_neg (fun z => hne z.1)]; exact congrFun (h.1 b hb).2.1 k, (h.1 b hb).2.2⟩, h.2.1, h.2.2.1, h.2.2.2⟩
theorem chg.lst {W9 : xWd} {S S2 : cS} {X : Nat → Prop} (h : chg S S2 X) {L : Nat} (hL : ¬ X L) (hc : lCap W9 S L) : lCap W9 S2 L ∧ lSame S S2 L := by
  have hs : lSame S S2 L := ⟨congrFun (h.1 L hL).1 2, congrFun (h.1 L hL).2.1 1, h.2.1 _⟩
  obtain ⟨e1, e2, e3⟩ := hs.rd
  obtain ⟨c1, c2, c3, c4, c5⟩ := hc
  refine ⟨⟨(h.2.2.1 L).trans c1, by rw [hs.1, e1]; exact c2, by rw [e1]; exact c3, by rw [hs.2.1, e2]; exact c4, ?_⟩, hs⟩
  rw [e1, e2, h.2.2.1, h.2.2.2]
  exact c5
theorem us_isL {M : mS} {k i : Nat} (z : isL M k i) : us M k i := by
  rcases z with ⟨rfl, z⟩ | ⟨rfl, z⟩ | ⟨rfl, z⟩
  · exact us6 z
  · exact us7 z
  · exact us8 z
/-- only boats, their waits and sections were changed -/
theorem R0_bt {W9 : xWd} {d : Nat → Nat → Nat} {S S2 : cS} {M M2 : mS} {X : Nat → Prop} (h : R0 W9 d S M) (hc : chg S S2 X) (hX : ∀ k i, us M k i → k ≠ 4 → k ≠ 10 → k ≠ 0 → ¬ X (d k i)) (c : ∀ k, M2.1 k = M.1 k) (m : ∀ k, k ≠ 15 → k ≠ 16 → (k < 30 ∨ 40 ≤ k) → k ≠ 43 → k ≠ 44 → k ≠ 45 → M2.2 k = M.2 k) (hS : rSec d S2 M2) (hB : rBoa d S2 M2) (hA : rAgr d S2 M2) (hW : rWai d S2 M2) : R0 W9 d S2 M2 := by
  obtain ⟨h1, h2, h3, h4, h5, h6, h7, h8, h9, h10, h11⟩ := h
  refine ⟨hS, h2.mono (fun t z => hc.sm (hX _ _ (us1 z) (by omega) (by omega) (by omega))) (m 17 (by omega) (by omega) (by omega) (by omega) (by omega) (by omega)), h3.mono (fun t z => hc.sm (hX _ _ (us5 z) (by omega) (by omega) (by omega))) (m 40 (by omega) (by omega) (by omega) (by omega) (by omega) (by omega)) (c 29), h4.mono (fun t z => hc.sm (hX _ _ (us2 z) (by omega) (by omega) (by omega))) (m 23 (by omega) (by omega) (by omega) (by omega) (by omega) (by omega)) (m 24 (by omega) (by omega) (by omega) (by omega) (by omega) (by omega)) (m 25 (by omega) (by omega) (by omega) (by omega) (by omega) (by omega)) (m 26 (by omega) (by omega) (by omega) (by omega) (by omega) (by omega)) (m 27 (by omega) (by omega) (by omega) (by omega) (by omega) (by omega)) (m 28 (by omega) (by omega) (by omega) (by omega) (by omega) (by omega)) (c 22), h5.mono (fun t z => hc.sm (hX _ _ (us3 z) (by omega) (by omega) (by omega))) (m 47 (by omega) (by omega) (by omega) (by omega) (by omega) (by omega)) (m 48 (by omega) (by omega) (by omega) (by omega) (by omega) (by omega)) (m 49 (by omega) (by omega) (by omega) (by omega) (by omega) (by omega)) (m 50 (by omega) (by omega) (by omega) (by omega) (by omega) (by omega)) (m 51 (by omega) (by omega) (by omega) (by omega) (by omega) (by omega)) (m 52 (by omega) (by omega) (by omega) (by omega) (by omega) (by omega)) (m 53 (by omega) (by omega) (by omega) (by omega) (by omega) (by omega)) (m 54 (by omega) (by omega) (by omega) (by omega) (by omega) (by omega)) (m 55 (by omega) (by omega) (by omega) (by omega) (by omega) (by omega)) (m 24 (by omega) (by omega) (by omega) (by omega) (by omega) (by omega)) (m 25 (by omega) (by omega) (by omega) (by omega) (by omega) (by omega)) (c 46) (c 22), hB, hA, hW, h9.mono (hc.sm (hX _ _ (us9 (by omega)) (by omega) (by omega) (by omega))) (c 1) (c 2) (c 3) (c 4) (c 56) (c 57) (c 58), h10.mono (hc.sm (hX _ _ (us9 (by omega)) (by omega) (by omega) (by omega))) (m 20 (by omega) (by omega) (by omega) (by omega) (by omega) (by omega)) (m 21 (by omega) (by omega) (by omega) (by omega) (by omega) (by omega)) (c 1), h11.mono (fun k i z hcap => ?_) (m 18 (by omega) (by omega) (by omega) (by omega) (by omega) (by omega)) (m 19 (by omega) (by omega) (by omega) (by omega) (by omega) (by omega)) (m 41 (by omega) (by omega) (by omega) (by omega) (by omega) (by omega)) (m 42 (by omega) (by omega) (by omega) (by omega) (by omega) (by omega)) (c 22) (c 29) (c 46)⟩
  refine hc.lst (hX k i (us_isL z) ?_ ?_ ?_) hcap <;> (rcases z with ⟨rfl, _⟩ | ⟨rfl, _⟩ | ⟨rfl, _⟩ <;> omega)
theorem rSec.keep {d : Nat → Nat → Nat} {S S2 : cS} {M M2 : mS} {X : Nat → Prop} (h : rSec d S M) (hc : chg S S2 X) (hX : ∀ s, s < 7 → ¬ X (d 0 s)) (m : ∀ k, 5 ≤ k → k ≤ 16 → M2.2 k = M.2 k) : rSec d S2 M2 :=
  h.mono (fun s z => hc.sm (hX s z)) (m 5 (by omega) (by omega)) (m 6 (by omega) (by omega)) (m 7 (by omega) (by omega)) (m 8 (by omega) (by omega)) (m 9 (by omega) (by omega)) (m 10 (by omega) (by omega)) (m 11 (by omega) (by omega)) (m 12 (by omega) (by omega)) (m 13 (by omega) (by omega)) (m 14 (by omega) (by omega)) (m 15 (by omega) (by omega)) (m 16 (by omega) (by omega))

theorem R0_work {W9 : xWd} {d : Nat → Nat → Nat} {S : cS} {M : mS} {w : Nat} (hd : dInj d) (h : R0 W9 d S M) (hw : w < nBt M) {x : Int32} (hx : cFi S (d 4 w) 205 - (if cFi S (d 4 w) 202 < cFi S (d 4 w) 205 then cFi S (d 4 w) 202 else cFi S (d 4 w) 205) = x) : R0 W9 d (cSetI (cSetI S (d 4 w) 205 x) (d 4 w) 213 0) (mAst (mAst M 39 w (if M.2 31 w < M.2 39 w then M.2 39 w - M.2 31 w else 0)) 43 w 0) := by
  have hB0 := h.2.2.2.2.2.1
  have hch : chg S (cSetI (cSetI S (d 4 w) 205 x) (d 4 w) 213 0) (fun b => b = d 4 w ∨ b = d 10 w) := (chg.rf.sI (Or.inl rfl)).sI (Or.inl rfl)
  refine R0_bt h hch (fun k i _ a b e => fun z => z.elim (fun y => a (hd _ _ _ _ y).1) (fun y => b (hd _ _ _ _ y).1)) (fun _ => rfl) (fun k a1 a2 a3 a4 a5 a6 => by simp only [mAst_2]; funext n; rw [if_neg (fun z => by omega)]; rw [if_neg (fun z => by omega)]; done) (h.1.keep hch (fun s _ z => z.elim (fun y => by have := (hd _ _ _ _ y).1; omega) (fun y => by have := (hd _ _ _ _ y).1; omega)) (fun k a1 a2 => by simp only [mAst_2]; funext n; rw [if_neg (fun z => by omega)]; rw [if_neg (fun z => by omega)]; done)) ?_ ?_ ?_
  · intro v hv
    by_cases c : v = w
    · subst c
      obtain ⟨h0, h200, h201, h202, h203, h204, h205, h206, h207, h208, h209, h210, h211, h213, h214⟩ := hB0 v hv
      exact ⟨h0, by simp only [cK_setI, cFi_setI, cFr_setI, cK_ast, cFi_ast, cFr_ast, mAst_2, eq_self, Nat.reduceEqDiff, and_false, false_and, and_true, true_and, and_self, if_true, if_false]; exact h200, by simp only [cK_setI, cFi_setI, cFr_setI, cK_ast, cFi_ast, cFr_ast, mAst_2, eq_self, Nat.reduceEqDiff, and_false, false_and, and_true, true_and, and_self, if_true, if_false]; exact h201, by simp only [cK_setI, cFi_setI, cFr_setI, cK_ast, cFi_ast, cFr_ast, mAst_2, eq_self, Nat.reduceEqDiff, and_false, false_and, and_true, true_and, and_self, if_true, if_false]; exact h202, by simp only [cK_setI, cFi_setI, cFr_setI, cK_ast, cFi_ast, cFr_ast, mAst_2, eq_self, Nat.reduceEqDiff, and_false, false_and, and_true, true_and, and_self, if_true, if_false]; exact h203, by simp only [cK_setI, cFi_setI, cFr_setI, cK_ast, cFi_ast, cFr_ast, mAst_2, eq_self, Nat.reduceEqDiff, and_false, false_and, and_true, true_and, and_self, if_true, if_false]; exact h204, by simp only [cK_setI, cFi_setI, cFr_setI, cK_ast, cFi_ast, cFr_ast, mAst_2, eq_self, Nat.reduceEqDiff, and_false, false_and, and_true, true_and, and_self, if_true, if_false]; rw [← hx, h205, h202]; split <;> grind, by simp only [cK_setI, cFi_setI, cFr_setI, cK_ast, cFi_ast, cFr_ast, mAst_2, eq_self, Nat.reduceEqDiff, and_false, false_and, and_true, true_and, and_self, if_true, if_false]; exact h206, by simp only [cK_setI, cFi_setI, cFr_setI, cK_ast, cFi_ast, cFr_ast, mAst_2, eq_self, Nat.reduceEqDiff, and_false, false_and, and_true, true_and, and_self, if_true, if_false]; exact h207, by simp only [cK_setI, cFi_setI, cFr_setI, cK_ast, cFi_ast, cFr_ast, mAst_2, eq_self, Nat.reduceEqDiff, and_false, false_and, and_true, true_and, and_self, if_true, if_false]; exact h208, by simp only [cK_setI, cFi_setI, cFr_setI, cK_ast, cFi_ast, cFr_ast, mAst_2, eq_self, Nat.reduceEqDiff, and_false, false_and, and_true, true_and, and_self, if_true, if_false]; exact h209, by simp only [cK_setI, cFi_setI, cFr_setI, cK_ast, cFi_ast, cFr_ast, mAst_2, eq_self, Nat.reduceEqDiff, and_false, false_and, and_true, true_and, and_self, if_true, if_false]; exact h210, by simp only [cK_setI, cFi_setI, cFr_setI, cK_ast, cFi_ast, cFr_ast, mAst_2, eq_self, Nat.reduceEqDiff, and_false, false_and, and_true, true_and, and_self, if_true, if_false]; exact h211, by simp only [cK_setI, cFi_setI, cFr_setI, cK_ast, cFi_ast, cFr_ast, mAst_2, eq_self, Nat.reduceEqDiff, and_false, false_and, and_true, true_and, and_self, if_true, if_false], by simp only [cK_setI, cFi_setI, cFr_setI, cK_ast, cFi_ast, cFr_ast, mAst_2, eq_self, Nat.reduceEqDiff, and_false, false_and, and_true, true_and, and_self, if_true, if_false]; exact h214⟩
    · exact rowB.mono (hB0 v hv) (hch.sm (fun z => z.elim (fun y => c (hd _ _ _ _ y).2) (fun y => by have := (hd _ _ _ _ y).1; omega))) (by simp only [mAst_2, Nat.reduceEqDiff, false_and, true_and, c, if_false]) (by simp only [mAst_2, Nat.reduceEqDiff, false_and, true_and, c, if_false]) (by simp only [mAst_2, Nat.reduceEqDiff, false_and, true_and, c, if_false]) (by simp only [mAst_2, Nat.reduceEqDiff, false_and, true_and, c, if_false]) (by simp only [mAst_2, Nat.reduceEqDiff, false_and, true_and, c, if_false]) (by simp only [mAst_2, Nat.reduceEqDiff, false_and, true_and, c, if_false]) (by simp only [mAst_2, Nat.reduceEqDiff, false_and, true_and, c, if_false]) (by simp only [mAst_2, Nat.reduceEqDiff, false_and, true_and, c, if_false]) (by simp only [mAst_2, Nat.reduceEqDiff, false_and, true_and, c, if_false]) (by simp only [mAst_2, Nat.reduceEqDiff, false_and, true_and, c, if_false]) (by simp only [mAst_2, Nat.reduceEqDiff, false_and, true_and, c, if_false])
  · intro v hv u hu
    simp only [cK_setI, cFi_setI, cFr_setI, cK_ast, cFi_ast, cFr_ast, mAst_2, eq_self, Nat.reduceEqDiff, and_false, false_and, and_true, true_and, and_self, if_true, if_false]
    exact h.2.2.2.2.2.2.1 v hv u hu
  · intro v hv
    exact h.2.2.2.2.2.2.2.1 v hv

theorem R0_left {W9 : xWd} {d : Nat → Nat → Nat} {S : cS} {M : mS} {w : Nat} (hd : dInj d) (h : R0 W9 d S M) (hw : w < nBt M) (hs : ¬ M.2 34 w = -1) : R0 W9 d (cSetI S (d 4 w) 209 (cFi S (d 4 w) 209 - 1)) (mAst M 36 w (M.2 36 w - 1)) := by
  have hB0 := h.2.2.2.2.2.1
  have hch : chg S (cSetI S (d 4 w) 209 (cFi S (d 4 w) 209 - 1)) (fun b => b = d 4 w ∨ b = d 10 w) := chg.rf.sI (Or.inl rfl)
  refine R0_bt h hch (fun k i _ a b e => fun z => z.elim (fun y => a (hd _ _ _ _ y).1) (fun y => b (hd _ _ _ _ y).1)) (fun _ => rfl) (fun k a1 a2 a3 a4 a5 a6 => by simp only [mAst_2]; funext n; rw [if_neg (fun z => by omega)]; done) (h.1.keep hch (fun s _ z => z.elim (fun y => by have := (hd _ _ _ _ y).1; omega) (fun y => by have := (hd _ _ _ _ y).1; omega)) (fun k a1 a2 => by simp only [mAst_2]; funext n; rw [if_neg (fun z => by omega)]; done)) ?_ ?_ ?_
  · intro v hv
    by_cases c : v = w
    · subst c
      obtain ⟨h0, h200, h201, h202, h203, h204, h205, h206, h207, h208, h209, h210, h211, h213, h214⟩ := hB0 v hv
      exact ⟨h0, by simp only [cK_setI, cFi_setI, cFr_setI, cK_ast, cFi_ast, cFr_ast, mAst_2, eq_self, Nat.reduceEqDiff, and_false, false_and, and_true, true_and, and_self, if_true, if_false]; exact h200, by simp only [cK_setI, cFi_setI, cFr_setI, cK_ast, cFi_ast, cFr_ast, mAst_2, eq_self, Nat.reduceEqDiff, and_false, false_and, and_true, true_and, and_self, if_true, if_false]; exact h201, by simp only [cK_setI, cFi_setI, cFr_setI, cK_ast, cFi_ast, cFr_ast, mAst_2, eq_self, Nat.reduceEqDiff, and_false, false_and, and_true, true_and, and_self, if_true, if_false]; exact h202, by simp only [cK_setI, cFi_setI, cFr_setI, cK_ast, cFi_ast, cFr_ast, mAst_2, eq_self, Nat.reduceEqDiff, and_false, false_and, and_true, true_and, and_self, if_true, if_false]; exact h203, by simp only [cK_setI, cFi_setI, cFr_setI, cK_ast, cFi_ast, cFr_ast, mAst_2, eq_self, Nat.reduceEqDiff, and_false, false_and, and_true, true_and, and_self, if_true, if_false]; exact h204, by simp only [cK_setI, cFi_setI, cFr_setI, cK_ast, cFi_ast, cFr_ast, mAst_2, eq_self, Nat.reduceEqDiff, and_false, false_and, and_true, true_and, and_self, if_true, if_false]; exact h205, by simp only [cK_setI, cFi_setI, cFr_setI, cK_ast, cFi_ast, cFr_ast, mAst_2, eq_self, Nat.reduceEqDiff, and_false, false_and, and_true, true_and, and_self, if_true, if_false]; exact h206, by simp only [cK_setI, cFi_setI, cFr_setI, cK_ast, cFi_ast, cFr_ast, mAst_2, eq_self, Nat.reduceEqDiff, and_false, false_and, and_true, true_and, and_self, if_true, if_false]; exact h207, by simp only [cK_setI, cFi_setI, cFr_setI, cK_ast, cFi_ast, cFr_ast, mAst_2, eq_self, Nat.reduceEqDiff, and_false, false_and, and_true, true_and, and_self, if_true, if_false]; exact h208, by simp only [cK_setI, cFi_setI, cFr_setI, cK_ast, cFi_ast, cFr_ast, mAst_2, eq_self, Nat.reduceEqDiff, and_false, false_and, and_true, true_and, and_self, if_true, if_false]; rw [h209, if_neg hs, if_neg hs], by simp only [cK_setI, cFi_setI, cFr_setI, cK_ast, cFi_ast, cFr_ast, mAst_2, eq_self, Nat.reduceEqDiff, and_false, false_and, and_true, true_and, and_self, if_true, if_false]; exact h210, by simp only [cK_setI, cFi_setI, cFr_setI, cK_ast, cFi_ast, cFr_ast, mAst_2, eq_self, Nat.reduceEqDiff, and_false, false_and, and_true, true_and, and_self, if_true, if_false]; exact h211, by simp only [cK_setI, cFi_setI, cFr_setI, cK_ast, cFi_ast, cFr_ast, mAst_2, eq_self, Nat.reduceEqDiff, and_false, false_and, and_true, true_and, and_self, if_true, if_false]; exact h213, by simp only [cK_setI, cFi_setI, cFr_setI, cK_ast, cFi_ast, cFr_ast, mAst_2, eq_self, Nat.reduceEqDiff, and_false, false_and, and_true, true_and, and_self, if_true, if_false]; exact h214⟩
    · exact rowB.mono (hB0 v hv) (hch.sm (fun z => z.elim (fun y => c (hd _ _ _ _ y).2) (fun y => by have := (hd _ _ _ _ y).1; omega))) (by simp only [mAst_2, Nat.reduceEqDiff, false_and, true_and, c, if_false]) (by simp only [mAst_2, Nat.reduceEqDiff, false_and, true_and, c, if_false]) (by simp only [mAst_2, Nat.reduceEqDiff, false_and, true_and, c, if_false]) (by simp only [mAst_2, Nat.reduceEqDiff, false_and, true_and, c, if_false]) (by simp only [mAst_2, Nat.reduceEqDiff, false_and, true_and, c, if_false]) (by simp only [mAst_2, Nat.reduceEqDiff, false_and, true_and, c, if_false]) (by simp only [mAst_2, Nat.reduceEqDiff, false_and, true_and, c, if_false]) (by simp only [mAst_2, Nat.reduceEqDiff, false_and, true_and, c, if_false]) (by simp only [mAst_2, Nat.reduceEqDiff, false_and, true_and, c, if_false]) (by simp only [mAst_2, Nat.reduceEqDiff, false_and, true_and, c, if_false]) (by simp only [mAst_2, Nat.reduceEqDiff, false_and, true_and, c, if_false])
  · intro v hv u hu
    simp only [cK_setI, cFi_setI, cFr_setI, cK_ast, cFi_ast, cFr_ast, mAst_2, eq_self, Nat.reduceEqDiff, and_false, false_and, and_true, true_and, and_self, if_true, if_false]
    exact h.2.2.2.2.2.2.1 v hv u hu
  · intro v hv
    exact h.2.2.2.2.2.2.2.1 v hv

theorem mWts_v {M : mS} {w j : Nat} (hw : w < 6) (hj : j < 10) : mWts M (nI w) (nI j) = mAst (mAst M 43 w (nI j)) 44 (10 * w + j) (M.2 44 (10 * w + j) + 1) := by
  unfold mWts
  rw [m10_nI, add_nI, ix_nI (show w < 1000 by omega), ix_nI (show 10 * w + j < 1000 by omega)]

theorem R0_wait {W9 : xWd} {d : Nat → Nat → Nat} {S : cS} {M : mS} {w : Nat} (hd : dInj d) (h : R0 W9 d S M) (hw : w < nBt M) (hn : nBt M ≤ 6) {j : Nat} (hj : j < 10) : R0 W9 d (cAst (cSetI S (d 4 w) 213 (nI j)) (d 10 w) j (cRi S (d 10 w) j + 1)) (mAst (mAst M 43 w (nI j)) 44 (10 * w + j) (M.2 44 (10 * w + j) + 1)) := by
  have hB0 := h.2.2.2.2.2.1
  have hch : chg S (cAst (cSetI S (d 4 w) 213 (nI j)) (d 10 w) j (cRi S (d 10 w) j + 1)) (fun b => b = d 4 w ∨ b = d 10 w) := (chg.rf.sI (Or.inl rfl)).ast (Or.inr rfl)
  refine R0_bt h hch (fun k i _ a b e => fun z => z.elim (fun y => a (hd _ _ _ _ y).1) (fun y => b (hd _ _ _ _ y).1)) (fun _ => rfl) (fun k a1 a2 a3 a4 a5 a6 => by simp only [mAst_2]; funext n; rw [if_neg (fun z => by omega)]; rw [if_neg (fun z => by omega)]; done) (h.1.keep hch (fun s _ z => z.elim (fun y => by have := (hd _ _ _ _ y).1; omega) (fun y => by have := (hd _ _ _ _ y).1; omega)) (fun k a1 a2 => by simp only [mAst_2]; funext n; rw [if_neg (fun z => by omega)]; rw [if_neg (fun z => by omega)]; done)) ?_ ?_ ?_
  · intro v hv
    by_cases c : v = w
    · subst c
      obtain ⟨h0, h200, h201, h202, h203, h204, h205, h206, h207, h208, h209, h210, h211, h213, h214⟩ := hB0 v hv
      exact ⟨h0, by simp only [cK_setI, cFi_setI, cFr_setI, cK_ast, cFi_ast, cFr_ast, mAst_2, eq_self, Nat.reduceEqDiff, and_false, false_and, and_true, true_and, and_self, if_true, if_false]; exact h200, by simp only [cK_setI, cFi_setI, cFr_setI, cK_ast, cFi_ast, cFr_ast, mAst_2, eq_self, Nat.reduceEqDiff, and_false, false_and, and_true, true_and, and_self, if_true, if_false]; exact h201, by simp only [cK_setI, cFi_setI, cFr_setI, cK_ast, cFi_ast, cFr_ast, mAst_2, eq_self, Nat.reduceEqDiff, and_false, false_and, and_true, true_and, and_self, if_true, if_false]; exact h202, by simp only [cK_setI, cFi_setI, cFr_setI, cK_ast, cFi_ast, cFr_ast, mAst_2, eq_self, Nat.reduceEqDiff, and_false, false_and, and_true, true_and, and_self, if_true, if_false]; exact h203, by simp only [cK_setI, cFi_setI, cFr_setI, cK_ast, cFi_ast, cFr_ast, mAst_2, eq_self, Nat.reduceEqDiff, and_false, false_and, and_true, true_and, and_self, if_true, if_false]; exact h204, by simp only [cK_setI, cFi_setI, cFr_setI, cK_ast, cFi_ast, cFr_ast, mAst_2, eq_self, Nat.reduceEqDiff, and_false, false_and, and_true, true_and, and_self, if_true, if_false]; exact h205, by simp only [cK_setI, cFi_setI, cFr_setI, cK_ast, cFi_ast, cFr_ast, mAst_2, eq_self, Nat.reduceEqDiff, and_false, false_and, and_true, true_and, and_self, if_true, if_false]; exact h206, by simp only [cK_setI, cFi_setI, cFr_setI, cK_ast, cFi_ast, cFr_ast, mAst_2, eq_self, Nat.reduceEqDiff, and_false, false_and, and_true, true_and, and_self, if_true, if_false]; exact h207, by simp only [cK_setI, cFi_setI, cFr_setI, cK_ast, cFi_ast, cFr_ast, mAst_2, eq_self, Nat.reduceEqDiff, and_false, false_and, and_true, true_and, and_self, if_true, if_false]; exact h208, by simp only [cK_setI, cFi_setI, cFr_setI, cK_ast, cFi_ast, cFr_ast, mAst_2, eq_self, Nat.reduceEqDiff, and_false, false_and, and_true, true_and, and_self, if_true, if_false]; exact h209, by simp only [cK_setI, cFi_setI, cFr_setI, cK_ast, cFi_ast, cFr_ast, mAst_2, eq_self, Nat.reduceEqDiff, and_false, false_and, and_true, true_and, and_self, if_true, if_false]; exact h210, by simp only [cK_setI, cFi_setI, cFr_setI, cK_ast, cFi_ast, cFr_ast, mAst_2, eq_self, Nat.reduceEqDiff, and_false, false_and, and_true, true_and, and_self, if_true, if_false]; exact h211, by simp only [cK_setI, cFi_setI, cFr_setI, cK_ast, cFi_ast, cFr_ast, mAst_2, eq_self, Nat.reduceEqDiff, and_false, false_and, and_true, true_and, and_self, if_true, if_false], by simp only [cK_setI, cFi_setI, cFr_setI, cK_ast, cFi_ast, cFr_ast, mAst_2, eq_self, Nat.reduceEqDiff, and_false, false_and, and_true, true_and, and_self, if_true, if_false]; exact h214⟩
    · exact rowB.mono (hB0 v hv) (hch.sm (fun z => z.elim (fun y => c (hd _ _ _ _ y).2) (fun y => by have := (hd _ _ _ _ y).1; omega))) (by simp only [mAst_2, Nat.reduceEqDiff, false_and, true_and, c, if_false]) (by simp only [mAst_2, Nat.reduceEqDiff, false_and, true_and, c, if_false]) (by simp only [mAst_2, Nat.reduceEqDiff, false_and, true_and, c, if_false]) (by simp only [mAst_2, Nat.reduceEqDiff, false_and, true_and, c, if_false]) (by simp only [mAst_2, Nat.reduceEqDiff, false_and, true_and, c, if_false]) (by simp only [mAst_2, Nat.reduceEqDiff, false_and, true_and, c, if_false]) (by simp only [mAst_2, Nat.reduceEqDiff, false_and, true_and, c, if_false]) (by simp only [mAst_2, Nat.reduceEqDiff, false_and, true_and, c, if_false]) (by simp only [mAst_2, Nat.reduceEqDiff, false_and, true_and, c, if_false]) (by simp only [mAst_2, Nat.reduceEqDiff, false_and, true_and, c, if_false]) (by simp only [mAst_2, Nat.reduceEqDiff, false_and, true_and, c, if_false])
  · intro v hv u hu
    simp only [cK_setI, cFi_setI, cFr_setI, cK_ast, cFi_ast, cFr_ast, mAst_2, eq_self, Nat.reduceEqDiff, and_false, false_and, and_true, true_and, and_self, if_true, if_false]
    exact h.2.2.2.2.2.2.1 v hv u hu
  · intro v hv
    obtain ⟨a1, a2, a3⟩ := h.2.2.2.2.2.2.2.1 v hv
    have hv : v < nBt M := hv
    refine ⟨a1, a2, fun i hi => ?_⟩
    rw [cRi_ast, cRi_setI, mAst_eq, mAst_ne (by omega)]
    by_cases c : v = w ∧ i = j
    · rw [if_pos ⟨by rw [c.1], c.2⟩, if_pos (by rw [c.1, c.2])]
      rw [← c.1, ← c.2, a3 i hi]
    · rw [if_neg (fun z => c ⟨(hd _ _ _ _ z.1).2, z.2⟩), if_neg (fun z => c (by omega))]
      exact a3 i hi

theorem R0_stand {W9 : xWd} {d : Nat → Nat → Nat} {S : cS} {M : mS} {w : Nat} (hd : dInj d) (h : R0 W9 d S M) (hw : w < nBt M) (hs : ¬ M.2 34 w = -1) {p o : Int32} (hp : p = mPtA M w) (ho : o = M.1 1) (h1 : ¬ p = -1) : R0 W9 d (if cFi S (d 4 w) 210 = p then cSetI (cSetI (cSetI (cSetI (cSetI S (d 4 w) 206 p) (d 4 w) 207 (-1)) (d 4 w) 209 0) (d 4 w) 211 o) (d 4 w) 210 (-1) else cSetI (cSetI (cSetI (cSetI S (d 4 w) 206 p) (d 4 w) 207 (-1)) (d 4 w) 209 0) (d 4 w) 211 o) (mCm1 M w) := by
  have hB0 := h.2.2.2.2.2.1
  have h210w := (R0_bfld h hw).2.1
  rw [h210w]
  have key : ∀ g : Int32, (M.2 37 w = p → g = -1) → (¬ M.2 37 w = p → g = M.2 37 w) → ∀ S2 : cS, (S2 = cSetI (cSetI (cSetI (cSetI (cSetI S (d 4 w) 206 p) (d 4 w) 207 (-1)) (d 4 w) 209 0) (d 4 w) 211 o) (d 4 w) 210 g ∨ (S2 = cSetI (cSetI (cSetI (cSetI S (d 4 w) 206 p) (d 4 w) 207 (-1)) (d 4 w) 209 0) (d 4 w) 211 o ∧ g = M.2 37 w)) → R0 W9 d S2 (mCm1 M w) := by
    intro g hg1 hg2 S2 hS2
    have hch : chg S S2 (fun b => b = d 4 w ∨ b = d 10 w) := by
      rcases hS2 with rfl | ⟨rfl, -⟩
      · exact ((((chg.rf.sI (Or.inl rfl)).sI (Or.inl rfl)).sI (Or.inl rfl)).sI (Or.inl rfl)).sI (Or.inl rfl)
      · exact (((chg.rf.sI (Or.inl rfl)).sI (Or.inl rfl)).sI (Or.inl rfl)).sI (Or.inl rfl)
    have hI : ∀ k, cFi S2 (d 4 w) k = if k = 210 then g else if k = 211 then o else if k = 209 then 0 else if k = 207 then -1 else if k = 206 then p else cFi S (d 4 w) k := fun k => by
      rcases hS2 with rfl | ⟨rfl, e⟩
      · simp only [cFi_setI, true_and]
      · simp only [cFi_setI, true_and]
        by_cases c : k = 210
        · rw [if_pos c, c, e]; simp only [Nat.reduceEqDiff, if_false]; exact h210w
        · rw [if_neg c]
    have hRi : cRi S2 = cRi S := by rcases hS2 with rfl | ⟨rfl, -⟩ <;> rfl
    have hFr : cFr S2 = cFr S := by rcases hS2 with rfl | ⟨rfl, -⟩ <;> rfl
    have hm : ∀ k, k ≠ 33 → k ≠ 34 → k ≠ 37 → k ≠ 38 → (mCm1 M w).2 k = M.2 k := fun k a b c e => by
      unfold mCm1
      rw [mAst_ne c, mAst_ne e, mAst_ne b, mAst_ne a]
    have v33 : ∀ v, (mCm1 M w).2 33 v = if v = w then mPtA M w else M.2 33 v := fun v => by unfold mCm1; rw [mAst_ne (by omega), mAst_ne (by omega), mAst_ne (by omega), mAst_eq]
    have v34 : ∀ v, (mCm1 M w).2 34 v = if v = w then -1 else M.2 34 v := fun v => by unfold mCm1; rw [mAst_ne (by omega), mAst_ne (by omega), mAst_eq, mAst_ne (by omega)]
    have v38 : ∀ v, (mCm1 M w).2 38 v = if v = w then M.1 1 else M.2 38 v := fun v => by unfold mCm1; rw [mAst_ne (by omega), mAst_eq, mAst_ne (by omega), mAst_ne (by omega)]
    have v37 : ∀ v, (mCm1 M w).2 37 v = if v = w then (if M.2 37 w = mPtA M w then -1 else M.2 37 w) else M.2 37 v := fun v => by unfold mCm1; rw [mAst_eq, mAst_ne (by omega), mAst_ne (by omega), mAst_ne (by omega)]
    have hX : ∀ (k i : Nat), k ≠ 4 → k ≠ 10 → ¬ (d k i = d 4 w ∨ d k i = d 10 w) := fun k i a b z => z.elim (fun y => a (hd _ _ _ _ y).1) (fun y => b (hd _ _ _ _ y).1)
    refine R0_bt h hch (fun k i _ a b e => hX k i a b) (fun _ => rfl) (fun k a1 a2 a3 a4 a5 a6 => hm k (by omega) (by omega) (by omega) (by omega)) (h.1.keep hch (fun s _ => hX 0 s (by omega) (by omega)) (fun k a1 a2 => hm k (by omega) (by omega) (by omega) (by omega))) ?_ ?_ ?_
    · intro v hv
      by_cases c : v = w
      · subst c
        obtain ⟨h0, h200, h201, h202, h203, h204, h205, h206, h207, h208, h209, h210, h211, h213, h214⟩ := hB0 v hv
        refine ⟨(hch.2.2.1 _).trans h0, ?_⟩
        simp only [hI, hFr, hm, v33, v34, v37, v38, Nat.reduceEqDiff, if_true, if_false, ne_eq, not_false_eq_true, eq_self]
        refine ⟨h200, h201, h202, h203, h204, h205, hp, trivial, fun z => absurd trivial z, trivial, ?_, fun _ => ho, h213, h214⟩
        by_cases c2 : M.2 37 v = mPtA M v
        · rw [if_pos c2]; exact hg1 (by rw [hp]; exact c2)
        · rw [if_neg c2]; exact hg2 (by rw [hp]; exact c2)
      · exact rowB.mono (hB0 v hv) (hch.sm (fun z => z.elim (fun y => c (hd _ _ _ _ y).2) (fun y => by have := (hd _ _ _ _ y).1; omega))) (by rw [hm 30 (by omega) (by omega) (by omega) (by omega)]) (by rw [hm 31 (by omega) (by omega) (by omega) (by omega)]) (by rw [hm 32 (by omega) (by omega) (by omega) (by omega)]) (by rw [v33, if_neg c]) (by rw [v34, if_neg c]) (by rw [hm 35 (by omega) (by omega) (by omega) (by omega)]) (by rw [hm 36 (by omega) (by omega) (by omega) (by omega)]) (by rw [v37, if_neg c]) (by rw [v38, if_neg c]) (by rw [hm 39 (by omega) (by omega) (by omega) (by omega)]) (by rw [hm 43 (by omega) (by omega) (by omega) (by omega)])
    · intro v hv u hu
      have e212 : cFi S2 (d 4 v) 212 = cFi S (d 4 v) 212 := by
        by_cases c : v = w
        · rw [c, hI]; simp only [Nat.reduceEqDiff, if_false]
        · exact congrFun (hch.1 _ (fun z => z.elim (fun y => c (hd _ _ _ _ y).2) (fun y => by have := (hd _ _ _ _ y).1; omega))).1 212
      rw [e212, hm 45 (by omega) (by omega) (by omega) (by omega)]
      exact h.2.2.2.2.2.2.1 v hv u hu
    · intro v hv
      obtain ⟨a1, a2, a3⟩ := h.2.2.2.2.2.2.2.1 v hv
      rw [hch.2.2.1, hch.2.2.2, hRi, hm 44 (by omega) (by omega) (by omega) (by omega)]
      exact ⟨a1, a2, a3⟩
  by_cases c : M.2 37 w = p
  · rw [if_pos c]
    exact key (-1) (fun _ => rfl) (fun z => absurd c z) _ (Or.inl rfl)
  · rw [if_neg c]
    exact key (M.2 37 w) (fun z => absurd z c) (fun _ => rfl) _ (Or.inr ⟨rfl, rfl⟩)

theorem bit_dec : ∀ u, u < 6 → ∀ v, v < 6 → ((1 : Int32) <<< (nI u &&& 31) ^^^ -1) &&& (1 : Int32) <<< (nI v &&& 31) = if u = v then (0 : Int32) else (1 : Int32) <<< (nI v &&& 31) := by decide +kernel
/-- one agrees no more -/
theorem R0_dis {W9 : xWd} {d : Nat → Nat → Nat} {S : cS} {M : mS} {w v : Nat} (hd : dInj d) (h : R0 W9 d S M) (hw : w < nBt M) (hn : nBt M ≤ 6) (hv : v < 6) : R0 W9 d (cSetI S (d 4 w) 212 (cFi S (d 4 w) 212 &&& (1 <<< (nI v &&& 31) ^^^ -1))) (mAst M 45 (6 * w + v) 0) := by
  have hB0 := h.2.2.2.2.2.1
  have hch : chg S (cSetI S (d 4 w) 212 (cFi S (d 4 w) 212 &&& (1 <<< (nI v &&& 31) ^^^ -1))) (fun b => b = d 4 w) := chg.rf.sI rfl
  refine R0_bt h hch (fun k i _ a b e => fun y => a (hd _ _ _ _ y).1) (fun _ => rfl) (fun k a1 a2 a3 a4 a5 a6 => mAst_ne a6) (h.1.keep hch (fun s _ y => by have := (hd _ _ _ _ y).1; omega) (fun k a1 a2 => mAst_ne (by omega))) ?_ ?_ ?_
  · intro u hu
    by_cases c : u = w
    · subst c
      obtain ⟨h0, h200, h201, h202, h203, h204, h205, h206, h207, h208, h209, h210, h211, h213, h214⟩ := hB0 u hu
      exact ⟨h0, by simp only [cK_setI, cFi_setI, cFr_setI, cK_ast, cFi_ast, cFr_ast, mAst_2, eq_self, Nat.reduceEqDiff, and_false, false_and, and_true, true_and, and_self, if_true, if_false]; exact h200, by simp only [cK_setI, cFi_setI, cFr_setI, cK_ast, cFi_ast, cFr_ast, mAst_2, eq_self, Nat.reduceEqDiff, and_false, false_and, and_true, true_and, and_self, if_true, if_false]; exact h201, by simp only [cK_setI, cFi_setI, cFr_setI, cK_ast, cFi_ast, cFr_ast, mAst_2, eq_self, Nat.reduceEqDiff, and_false, false_and, and_true, true_and, and_self, if_true, if_false]; exact h202, by simp only [cK_setI, cFi_setI, cFr_setI, cK_ast, cFi_ast, cFr_ast, mAst_2, eq_self, Nat.reduceEqDiff, and_false, false_and, and_true, true_and, and_self, if_true, if_false]; exact h203, by simp only [cK_setI, cFi_setI, cFr_setI, cK_ast, cFi_ast, cFr_ast, mAst_2, eq_self, Nat.reduceEqDiff, and_false, false_and, and_true, true_and, and_self, if_true, if_false]; exact h204, by simp only [cK_setI, cFi_setI, cFr_setI, cK_ast, cFi_ast, cFr_ast, mAst_2, eq_self, Nat.reduceEqDiff, and_false, false_and, and_true, true_and, and_self, if_true, if_false]; exact h205, by simp only [cK_setI, cFi_setI, cFr_setI, cK_ast, cFi_ast, cFr_ast, mAst_2, eq_self, Nat.reduceEqDiff, and_false, false_and, and_true, true_and, and_self, if_true, if_false]; exact h206, by simp only [cK_setI, cFi_setI, cFr_setI, cK_ast, cFi_ast, cFr_ast, mAst_2, eq_self, Nat.reduceEqDiff, and_false, false_and, and_true, true_and, and_self, if_true, if_false]; exact h207, by simp only [cK_setI, cFi_setI, cFr_setI, cK_ast, cFi_ast, cFr_ast, mAst_2, eq_self, Nat.reduceEqDiff, and_false, false_and, and_true, true_and, and_self, if_true, if_false]; exact h208, by simp only [cK_setI, cFi_setI, cFr_setI, cK_ast, cFi_ast, cFr_ast, mAst_2, eq_self, Nat.reduceEqDiff, and_false, false_and, and_true, true_and, and_self, if_true, if_false]; exact h209, by simp only [cK_setI, cFi_setI, cFr_setI, cK_ast, cFi_ast, cFr_ast, mAst_2, eq_self, Nat.reduceEqDiff, and_false, false_and, and_true, true_and, and_self, if_true, if_false]; exact h210, by simp only [cK_setI, cFi_setI, cFr_setI, cK_ast, cFi_ast, cFr_ast, mAst_2, eq_self, Nat.reduceEqDiff, and_false, false_and, and_true, true_and, and_self, if_true, if_false]; exact h211, by simp only [cK_setI, cFi_setI, cFr_setI, cK_ast, cFi_ast, cFr_ast, mAst_2, eq_self, Nat.reduceEqDiff, and_false, false_and, and_true, true_and, and_self, if_true, if_false]; exact h213, by simp only [cK_setI, cFi_setI, cFr_setI, cK_ast, cFi_ast, cFr_ast, mAst_2, eq_self, Nat.reduceEqDiff, and_false, false_and, and_true, true_and, and_self, if_true, if_false]; exact h214⟩
    · exact rowB.mono (hB0 u hu) (hch.sm (fun y => c (hd _ _ _ _ y).2)) (by rw [mAst_ne (by omega)]) (by rw [mAst_ne (by omega)]) (by rw [mAst_ne (by omega)]) (by rw [mAst_ne (by omega)]) (by rw [mAst_ne (by omega)]) (by rw [mAst_ne (by omega)]) (by rw [mAst_ne (by omega)]) (by rw [mAst_ne (by omega)]) (by rw [mAst_ne (by omega)]) (by rw [mAst_ne (by omega)]) (by rw [mAst_ne (by omega)])
  · intro u hu x hx
    have h0 := h.2.2.2.2.2.2.1 u hu x hx
    have hu : u < nBt M := hu
    rw [cFi_setI, mAst_eq]
    by_cases c : u = w
    · subst c
      rw [if_pos ⟨rfl, rfl⟩, Int32.and_assoc, bit_dec v hv x hx]
      by_cases c2 : v = x
      · rw [if_pos c2, if_pos (by omega), Int32.and_zero]
      · rw [if_neg c2, if_neg (by omega)]
        exact h0
    · rw [if_neg (fun z => c (hd _ _ _ _ z.1).2), if_neg (by omega)]
      exact h0
  · intro u hu
    rw [mAst_ne (by omega)]
    exact h.2.2.2.2.2.2.2.1 u hu

